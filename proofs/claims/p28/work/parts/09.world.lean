/-! the reference's cells, the text's cells; the grid that the reference's row of numbers holds -/
abbrev wM (mo : Nat) (am : Nat → Nat) (cI : ClassId) (S : Nat → Int → Int) : va_W := [(mo, .inr (3, [.ref (am 0), .ref (am 1), .ref (am 2), .ref (am 3), .int (iI (S 4 0)), .ref (am 5), .int (iI (S 6 0)), .int (iI (S 7 0)), .int (iI (S 8 0)), .int (iI (S 9 0)), .int (iI (S 10 0)), .ref (am 11), .int (iI (S 12 0)), .int (iI (S 13 0))])), (am 0, .inl (cI, 269, .inl (aI (S 0)))), (am 1, .inl (cI, 269, .inl (aI (S 1)))), (am 2, .inl (cI, 269, .inl (aI (S 2)))), (am 3, .inl (cI, 1076, .inl (aI (S 3)))), (am 5, .inl (cI, 60, .inl (aI (S 5)))), (am 11, .inl (cI, 3, .inl (aI (S 11))))]
theorem wM_set0 (mo : Nat) (am : Nat → Nat) (cI : ClassId) (S : Nat → Int → Int) (z v : Int) : (wM mo am cI S).set 1 (am 0, .inl (cI, 269, .inl (aI (upI (S 0) z v)))) = wM mo am cI (upG S 0 z v) := rfl
theorem wM_set1 (mo : Nat) (am : Nat → Nat) (cI : ClassId) (S : Nat → Int → Int) (z v : Int) : (wM mo am cI S).set 2 (am 1, .inl (cI, 269, .inl (aI (upI (S 1) z v)))) = wM mo am cI (upG S 1 z v) := rfl
theorem wM_set2 (mo : Nat) (am : Nat → Nat) (cI : ClassId) (S : Nat → Int → Int) (z v : Int) : (wM mo am cI S).set 3 (am 2, .inl (cI, 269, .inl (aI (upI (S 2) z v)))) = wM mo am cI (upG S 2 z v) := rfl
theorem wM_set3 (mo : Nat) (am : Nat → Nat) (cI : ClassId) (S : Nat → Int → Int) (z v : Int) : (wM mo am cI S).set 4 (am 3, .inl (cI, 1076, .inl (aI (upI (S 3) z v)))) = wM mo am cI (upG S 3 z v) := rfl
theorem wM_set5 (mo : Nat) (am : Nat → Nat) (cI : ClassId) (S : Nat → Int → Int) (z v : Int) : (wM mo am cI S).set 5 (am 5, .inl (cI, 60, .inl (aI (upI (S 5) z v)))) = wM mo am cI (upG S 5 z v) := rfl
theorem wM_set11 (mo : Nat) (am : Nat → Nat) (cI : ClassId) (S : Nat → Int → Int) (z v : Int) : (wM mo am cI S).set 6 (am 11, .inl (cI, 3, .inl (aI (upI (S 11) z v)))) = wM mo am cI (upG S 11 z v) := rfl
abbrev wT (t : Nat) (ta : Nat → Nat) (cI cC : ClassId) (T : Nat → Int → Int) : va_W := [(t, .inr (1, [.ref (ta 0), .int (iI (T 1 0)), .int (iI (T 2 0)), .ref (ta 3), .int (iI (T 4 0))])), (ta 0, .inl (cC, 60, .inl (aI (T 0)))), (ta 3, .inl (cI, 3, .inl (aI (T 3))))]
theorem iI_nI {z : Int} (h : 0 ≤ z) : iI z = nI z.toNat := by
  unfold iI nI
  rw [← Int32.ofInt_eq_ofNat]
  congr 1
  omega
theorem narrow_c {z : Int} (h : 0 ≤ z ∧ z < 65536) : narrow .char (.int (iI z)) = .int (iI z) := by
  rw [iI_nI h.1]; exact (pk_charN (by omega)).1
theorem fits_c {z : Int} (h : 0 ≤ z ∧ z < 65536) : fits .char (.int (iI z)) = true := by
  rw [iI_nI h.1]; exact (pk_charN (by omega)).2
theorem fits_z01 {z : Int} (h : z = 0 ∨ z = 1) : fits .boolean (.int (iI z)) = true := by
  rcases h with rfl | rfl <;> rfl
theorem nar_c {z : Int} (h : 0 ≤ z ∧ z < 65536) : vp_nar .char (iI z) = iI z := by
  unfold vp_nar
  rw [narrow_c h]
theorem i2c_z {z : Int} (h : 0 ≤ z ∧ z < 65536) : ((iI z).toUInt32 % 65536).toInt32 = iI z := by
  rw [pk_char, iI_nI h.1, pk_tn (by omega), Nat.mod_eq_of_lt (by omega)]
theorem va_P_cell {D : va_G} {cl : List vw_C} {ws : va_W} {q1 a n : Nat} {c1 : ClassId} {f g : Nat → Int32} {H : Heap} (h : va_P D cl (ws.set q1 (a, .inl (c1, n, .inl f))) H) (e : ∀ j, j < n → f j = g j) : va_P D cl (ws.set q1 (a, .inl (c1, n, .inl g))) H := by
  intro k q hk
  by_cases hkq : k = q1
  · subst hkq
    by_cases hl : k < ws.length
    · rw [List.getElem?_set_self hl] at hk
      cases hk
      have h1 := h k _ (List.getElem?_set_self hl)
      show H[a]? = some (vp_cell c1 (n, .inl g))
      have h2 : vp_cell c1 (n, .inl g) = vp_cell c1 (n, .inl f) := by
        show arrV c1 n (fun j => .int (g j)) = arrV c1 n (fun j => .int (f j))
        unfold arrV
        congr 2
        funext j
        show Value.int (g j.val) = Value.int (f j.val)
        rw [e j.val j.isLt]
      rw [h2]
      exact h1
    · have h3 : (ws.set k (a, .inl (c1, n, .inl g)))[k]? = none := by
        rw [List.getElem?_eq_none_iff, List.length_set]; omega
      rw [h3] at hk
      cases hk
  · rw [List.getElem?_set_ne (Ne.symm hkq)] at hk
    exact h k q (by rw [List.getElem?_set_ne (Ne.symm hkq)]; exact hk)
section ZC
variable {p : Program} {l : Launch} {e : Env} {R : Room} {s : State} {m : MethodId} {args : Array Value} {below : List Frame} {meth : Method} {c : Code} {H : Heap} {locs : List Loc} {cells slots : Nat} {Q : State → Prop}
variable {cc : ByteArray} {pc : Nat} {ls : Array Slot} {rest : List Value} {D : va_G} {cl : List vw_C} {A : Nat → Prop} {a : Nat} {tys : List (ClassId × FieldType)} {ws w1 : va_W} {H0 : Heap}
theorem z_copy (hexec : p.tables.exec = Jvm.exec) (hb : c.code = cc) (hml : c.maxLocals = ls.size) {own : String} {index : Nat} (hown : s.vm.findClass own = some m.cls) (hlink : (Cond.methodLink own index arraycopyName).before args s = true) (hnat : (Cond.native arraycopyName).before args s = true) (hstat : (Cond.static arraycopyName).before args s = true) (hini : (Cond.initialized "java/lang/System").before args s = true)
    (hK : va_K D cl tys s) (hP : va_P D cl ws H) (hD : va_D A ws) (hS : va_S A H0 H locs) (q0 q1 t0 t1 : Nat) {a0 : Nat} {c0 c1 : ClassId} {n : Nat} {F G : Int → Int} (ha0 : ws[q0]? = some (a0, .inl (c0, n, .inl (aI F)))) (ha1 : ws[q1]? = some (a, .inl (c1, n, .inl (aI G)))) (ht0 : tys[t0]? = some (c0, .int)) (ht1 : tys[t1]? = some (c1, .int)) {z : Int} (hz : z = (n : Int) ∧ z < 2147483648)
    (hw : ws.set q1 (a, .inl (c1, n, .inl (aI F))) = w1) (hframes : 1 ≤ R.frames) (hlocals : 26 ≤ R.locals) (hrest : (rest.map fun v => v.category).sum ≤ 8) (hdg : decode cc pc = .ok (.invokestatic index, 3))
    (kk : ∀ (H1 : Heap) (locs1 : List Loc), va_P D cl w1 H1 → va_D A w1 → va_S A H0 H1 locs1 → W p l e R s m args below meth c H1 locs1 cells slots Q (F0 m (pc + 3) ls rest)) : W p l e R s m args below meth c H locs cells slots Q (F0 m pc ls (.int (iI z) :: .int (iI 0) :: .ref a :: .int (iI 0) :: .ref a0 :: rest)) := by
  have e0 : (iI 0).toNatClampNeg = 0 := by decide +kernel
  have ez : (iI z).toNatClampNeg = n := by rw [iI_clamp (by omega) hz.2]; omega
  have h0 : ¬ iI 0 < 0 := by decide +kernel
  have hz0 : ¬ iI z < 0 := by rw [← iI_0, iI_lt (by omega) (by omega)]; omega
  refine va_copyi (ty := .int) hexec hb hml hown hlink hnat hstat hini hK hP hD hS q0 q1 t0 t1 ha0 ha1 ht0 ht1 rfl h0 h0 hz0 (by rw [e0, ez]; omega) (by rw [e0, ez]; omega) (fun _ _ => rfl) hframes (by
    have e7 : nativeFrameWords "java/lang/System" "arraycopy" 5 = 7 := by decide +kernel
    rw [e7]; omega) hdg (fun H1 locs1 hP1 hD1 hS1 => ?_)
  rw [e0, ez] at hP1
  refine kk H1 locs1 ?_ ?_ hS1
  · rw [← hw]
    refine va_P_cell hP1 (fun j hj => ?_)
    unfold va_cpy
    rw [if_pos ⟨Nat.zero_le _, by omega⟩]
    simp
  · rw [← hw]
    exact hD.set ha1
theorem z_cald (hexec : p.tables.exec = Jvm.exec) (hb : c.code = cc) (hK : va_K D cl tys s) (hP : va_P D cl ws H) (q0 t0 : Nat) {cA : ClassId} {n : Nat} {F : Int → Int} (ha : ws[q0]? = some (a, .inl (cA, n, .inl (aI F)))) (ht : tys[t0]? = some (cA, .char)) {z : Int} (h0 : 0 ≤ z ∧ z < (n : Int)) (hn : n < 2147483648) {v : Int} (hv : F z = v) (hdg : decode cc pc = .ok (.caload, 1))
    (kk : W p l e R s m args below meth c H locs cells slots Q (F0 m (pc + 1) ls (.int (iI v) :: rest))) : W p l e R s m args below meth c H locs cells slots Q (F0 m pc ls (.int (iI z) :: .ref a :: rest)) :=
  va_cald hexec hb hK hP q0 t0 ha ht (iI_in h0.1 h0.2 hn) hdg (by
    have hz : ((z.toNat : Nat) : Int) = z := by omega
    rw [iI_clamp h0.1 (by omega)]
    show W p l e R s m args below meth c H locs cells slots Q (F0 m (pc + 1) ls (.int (iI (F ((z.toNat : Nat) : Int))) :: rest))
    rw [hz, hv]; exact kk)
theorem z_cast (hexec : p.tables.exec = Jvm.exec) (hb : c.code = cc) (hK : va_K D cl tys s) (hP : va_P D cl ws H) (hD : va_D A ws) (hS : va_S A H0 H locs) (q0 t0 : Nat) {cA : ClassId} {n : Nat} {F : Int → Int} (ha : ws[q0]? = some (a, .inl (cA, n, .inl (aI F)))) (ht : tys[t0]? = some (cA, .char)) {z v : Int} (h0 : 0 ≤ z ∧ z < (n : Int)) (hn : n < 2147483648) (hv : 0 ≤ v ∧ v < 65536) (hw : ws.set q0 (a, .inl (cA, n, .inl (aI (upI F z v)))) = w1) (hdg : decode cc pc = .ok (.castore, 1))
    (kk : ∀ (H1 : Heap) (locs1 : List Loc), va_P D cl w1 H1 → va_D A w1 → va_S A H0 H1 locs1 → W p l e R s m args below meth c H1 locs1 cells slots Q (F0 m (pc + 1) ls rest)) : W p l e R s m args below meth c H locs cells slots Q (F0 m pc ls (.int (iI v) :: .int (iI z) :: .ref a :: rest)) := by
  refine va_cast hexec hb hK hP hD hS q0 t0 ha ht (iI_in h0.1 h0.2 hn) hdg ?_
  rw [nar_c hv, aI_up h0.1 (by omega), hw]
  exact kk
end ZC
/-! the grid in the reference's row of numbers -/
def lenZ (k : Nat) : Int := if k < 4 then 48 else if k < 6 then 18 else if k < 10 then 6 else if k = 10 then 9 else if k = 11 then 3 else if k = 12 then 1 else 0
def ixZ (k : Nat) (p : Int) : Int := if k < 4 then 17 + 42 * (p / 8) + (10 + (4 * (p % 8) + k)) else if k = 4 then 17 + 42 * (p / 3) + (4 + p % 3) else if k = 5 then 17 + 42 * (p / 3) + (7 + p % 3) else if k < 10 then 17 + 42 * p + ((k : Int) - 6) else if k = 10 then 8 + p else if k = 11 then 1 + p else p
def gOf (s : Int → Int) : Nat → Int → Int := fun k p => if 0 ≤ p ∧ p < lenZ k then s (ixZ k p) else 0
theorem ix_k (k : Nat) (h : k < 13) : k = 0 ∨ k = 1 ∨ k = 2 ∨ k = 3 ∨ k = 4 ∨ k = 5 ∨ k = 6 ∨ k = 7 ∨ k = 8 ∨ k = 9 ∨ k = 10 ∨ k = 11 ∨ k = 12 := by omega
/-- the part of a place: the cell's, the guard's .. of its row -/
theorem ix_rows {k : Nat} (hk : k < 10) {p : Int} (hp : 0 ≤ p ∧ p < lenZ k) : 17 ≤ ixZ k p ∧ ixZ k p < 269 ∧ ((ixZ k p - 17) % 42 = if k < 4 then 10 + (4 * (p % 8) + k) else if k = 4 then 4 + p % 3 else if k = 5 then 7 + p % 3 else (k : Int) - 6) ∧ ((ixZ k p - 17) / 42 = if k < 4 then p / 8 else if k < 6 then p / 3 else p) := by
  rcases (show k = 0 ∨ k = 1 ∨ k = 2 ∨ k = 3 ∨ k = 4 ∨ k = 5 ∨ k = 6 ∨ k = 7 ∨ k = 8 ∨ k = 9 by omega) with rfl | rfl | rfl | rfl | rfl | rfl | rfl | rfl | rfl | rfl <;> simp [ixZ, lenZ] at hp ⊢ <;> omega
theorem ix_top {k : Nat} (hk : 10 ≤ k) (hk2 : k < 13) {p : Int} (hp : 0 ≤ p ∧ p < lenZ k) : ixZ k p = (if k = 10 then 8 + p else if k = 11 then 1 + p else 0) ∧ (k = 10 → p < 9) ∧ (k = 11 → p < 3) ∧ (k = 12 → p = 0) := by
  rcases (show k = 10 ∨ k = 11 ∨ k = 12 by omega) with rfl | rfl | rfl <;> simp [ixZ, lenZ] at hp ⊢ <;> omega
theorem ix_inj {k k' : Nat} {p q : Int} (hp : 0 ≤ p ∧ p < lenZ k) (hq : 0 ≤ q ∧ q < lenZ k') (h : ixZ k p = ixZ k' q) : k = k' ∧ p = q := by
  have hk : k < 13 := by
    rcases Nat.lt_or_ge k 13 with a | a
    · exact a
    · exfalso; unfold lenZ at hp; rw [if_neg (by omega), if_neg (by omega), if_neg (by omega), if_neg (by omega), if_neg (by omega), if_neg (by omega)] at hp; omega
  have hk' : k' < 13 := by
    rcases Nat.lt_or_ge k' 13 with a | a
    · exact a
    · exfalso; unfold lenZ at hq; rw [if_neg (by omega), if_neg (by omega), if_neg (by omega), if_neg (by omega), if_neg (by omega), if_neg (by omega)] at hq; omega
  by_cases a : k < 10
  · have h1 := ix_rows a hp
    by_cases b : k' < 10
    · have h2 := ix_rows b hq
      rw [← h] at h2
      have e1 := h1.2.2.1.symm.trans h2.2.2.1
      have e2 := h1.2.2.2.symm.trans h2.2.2.2
      clear h h1 h2 hp hq
      rcases (show k = 0 ∨ k = 1 ∨ k = 2 ∨ k = 3 ∨ k = 4 ∨ k = 5 ∨ k = 6 ∨ k = 7 ∨ k = 8 ∨ k = 9 by omega) with rfl | rfl | rfl | rfl | rfl | rfl | rfl | rfl | rfl | rfl <;> rcases (show k' = 0 ∨ k' = 1 ∨ k' = 2 ∨ k' = 3 ∨ k' = 4 ∨ k' = 5 ∨ k' = 6 ∨ k' = 7 ∨ k' = 8 ∨ k' = 9 by omega) with rfl | rfl | rfl | rfl | rfl | rfl | rfl | rfl | rfl | rfl <;> simp at e1 e2 ⊢ <;> omega
    · have h2 := ix_top (Nat.not_lt.mp b) hk' hq
      exfalso
      rw [← h] at h2
      have := h2.1
      split at this <;> (try split at this) <;> omega
  · have h1 := ix_top (Nat.not_lt.mp a) hk hp
    by_cases b : k' < 10
    · have h2 := ix_rows b hq
      exfalso
      rw [h] at h1
      have := h1.1
      split at this <;> (try split at this) <;> omega
    · have h2 := ix_top (Nat.not_lt.mp b) hk' hq
      rw [h] at h1
      have e := h1.1.symm.trans h2.1
      rcases (show k = 10 ∨ k = 11 ∨ k = 12 by omega) with rfl | rfl | rfl <;> rcases (show k' = 10 ∨ k' = 11 ∨ k' = 12 by omega) with rfl | rfl | rfl <;> simp at e h1 h2 ⊢ <;> omega
theorem gOf_in (s : Int → Int) {k : Nat} {p : Int} (h : 0 ≤ p ∧ p < lenZ k) : gOf s k p = s (ixZ k p) := if_pos h
theorem gOf_no (s : Int → Int) {k : Nat} {p : Int} (h : ¬ (0 ≤ p ∧ p < lenZ k)) : gOf s k p = 0 := if_neg h
theorem gOf_up (s : Int → Int) {k : Nat} {p v : Int} (hp : 0 ≤ p ∧ p < lenZ k) : gOf (upI s (ixZ k p) v) = upG (gOf s) k p v := by
  funext k' q
  by_cases hk : k' = k
  · subst hk
    have e1 : upG (gOf s) k' p v k' = upI (gOf s k') p v := if_pos rfl
    rw [e1]
    by_cases hq : 0 ≤ q ∧ q < lenZ k'
    · rw [gOf_in _ hq]
      by_cases e : q = p
      · subst e; rw [upI_s, upI_s]
      · rw [upI_n (fun h => e (ix_inj hq hp h).2), upI_n e, gOf_in _ hq]
    · rw [gOf_no _ hq, upI_n (fun h => hq (by rw [h]; exact hp)), gOf_no _ hq]
  · have e1 : upG (gOf s) k p v k' = gOf s k' := if_neg hk
    rw [e1]
    by_cases hq : 0 ≤ q ∧ q < lenZ k'
    · rw [gOf_in _ hq, gOf_in _ hq, upI_n (fun h => hk (ix_inj hq hp h).1)]
    · rw [gOf_no _ hq, gOf_no _ hq]
theorem gOf_out (s : Int → Int) {i v : Int} (hi : 4 ≤ i ∧ i ≤ 7) : gOf (upI s i v) = gOf s := by
  funext k q
  unfold gOf
  by_cases hq : 0 ≤ q ∧ q < lenZ k
  · rw [if_pos hq, if_pos hq]
    refine upI_n (fun h => ?_)
    by_cases a : k < 10
    · have := ix_rows a hq; omega
    · have hk : k < 13 := by
        rcases Nat.lt_or_ge k 13 with b | b
        · exact b
        · exfalso; unfold lenZ at hq; rw [if_neg (by omega), if_neg (by omega), if_neg (by omega), if_neg (by omega), if_neg (by omega), if_neg (by omega)] at hq; omega
      have h2 := ix_top (Nat.not_lt.mp a) hk hq
      have := h2.1
      split at this
      · omega
      · split at this <;> omega
  · rw [if_neg hq, if_neg hq]
