/-! worlds by blocks: a callee on some blocks, the rest of any form -/
theorem va_P_iff {D : va_G} {cl : List vw_C} {ws : va_W} {H : Heap} : va_P D cl ws H ↔ ∀ q ∈ ws, va_at D cl q H :=
  ⟨fun h q hq => by obtain ⟨k, hk⟩ := List.mem_iff_getElem?.mp hq; exact h k q hk, fun h k q hk => h q (List.mem_of_getElem? hk)⟩
theorem va_D_iff {A : Nat → Prop} {ws : va_W} : va_D A ws ↔ (ws.map (fun q => q.1)).Nodup ∧ ∀ q ∈ ws, A q.1 := by
  constructor
  · intro h
    refine ⟨?_, fun q hq => by obtain ⟨k, hk⟩ := List.mem_iff_getElem?.mp hq; exact h.2 k q hk⟩
    rw [List.Nodup, List.pairwise_map, List.pairwise_iff_getElem]
    intro i j hi hj hij he
    have := h.1 i j _ _ (List.getElem?_eq_getElem hi) (List.getElem?_eq_getElem hj) he
    omega
  · intro h
    refine ⟨fun i j p q hp hq he => ?_, fun k q hk => h.2 q (List.mem_of_getElem? hk)⟩
    have hn := h.1
    rw [List.Nodup, List.pairwise_map, List.pairwise_iff_getElem] at hn
    obtain ⟨hi, rfl⟩ := List.getElem?_eq_some_iff.mp hp
    obtain ⟨hj, rfl⟩ := List.getElem?_eq_some_iff.mp hq
    rcases Nat.lt_trichotomy i j with h1 | h1 | h1
    · exact absurd he (hn i j hi hj h1)
    · exact h1
    · exact absurd he.symm (hn j i hj hi h1)
theorem va_P_perm {D : va_G} {cl : List vw_C} {ws ws' : va_W} {H : Heap} (h : va_P D cl ws H) (hp : ws.Perm ws') : va_P D cl ws' H := va_P_iff.mpr fun q hq => va_P_iff.mp h q (hp.mem_iff.mpr hq)
theorem va_D_perm {A : Nat → Prop} {ws ws' : va_W} (h : va_D A ws) (hp : ws.Perm ws') : va_D A ws' := by
  have h := va_D_iff.mp h
  exact va_D_iff.mpr ⟨(hp.map _).nodup_iff.mp h.1, fun q hq => h.2 q (hp.mem_iff.mpr hq)⟩
theorem va_P_left {D : va_G} {cl : List vw_C} {ws ws' : va_W} {H : Heap} (h : va_P D cl (ws ++ ws') H) : va_P D cl ws H := va_P_iff.mpr fun q hq => va_P_iff.mp h q (List.mem_append_left _ hq)
theorem va_D_left {A : Nat → Prop} {ws ws' : va_W} (h : va_D A (ws ++ ws')) : va_D A ws := by
  have h := va_D_iff.mp h
  rw [List.map_append, List.nodup_append] at h
  exact va_D_iff.mpr ⟨h.1.1, fun q hq => h.2 q (List.mem_append_left _ hq)⟩
section MWB
variable {p : Program} {l : Launch} {e : Env} {R : Room} {s : State} {m : MethodId} {args : Array Value} {below : List Frame} {meth : Method} {c : Code} {H : Heap} {locs : List Loc} {cells slots : Nat} {Q : State → Prop}
variable {cc : ByteArray} {pc nL : Nat} {ls : Array Slot} {rest : List Value} {D : va_G} {A : Nat → Prop} {wc wc' ws0 w1 wr : va_W} {r : Option Value}
/-- the callee has a part of the world, wc; the rest, wr, stays -/
theorem mw_blk {st0 st1 : List Value} (hr : MRun p l e R s m args below meth c H locs cells slots D wc wc' r (F0 m pc ls st0) rest) (hP : va_P D vwCl ws0 H) (hD : va_D A ws0) (hS : va_S A s.heap H locs) (hA : ∀ q : Nat, s.heap.size ≤ q → A q) (hp : ws0.Perm (wc ++ wr)) (hp1 : (wc' ++ wr).Perm w1) (hst : r.toList ++ rest = st1)
    (kk : ∀ (H1 : Heap) (locs1 : List Loc), va_P D vwCl w1 H1 → va_D A w1 → va_S A s.heap H1 locs1 → W p l e R s m args below meth c H1 locs1 cells slots Q (F0 m (pc + 3) ls st1)) : W p l e R s m args below meth c H locs cells slots Q (F0 m pc ls st0) := by
  have hP' := va_P_iff.mp (va_P_perm hP hp)
  have hD' := va_D_iff.mp (va_D_perm hD hp)
  rw [List.map_append, List.nodup_append] at hD'
  have hF : ∀ q, va_A wc H.size q → A q := fun q h => by
    rcases h with ⟨k, e0, h⟩ | h
    · exact hD'.2 _ (List.mem_append_left _ (List.mem_of_getElem? h))
    · exact hA q (Nat.le_trans hS.1 h)
  have hno : ∀ q ∈ wr, ¬ va_A wc H.size q.1 := fun q hq h => by
    rcases h with ⟨k, e0, h⟩ | h
    · exact hD'.1.2.2 q.1 (List.mem_map.mpr ⟨_, List.mem_of_getElem? h, rfl⟩) q.1 (List.mem_map.mpr ⟨_, hq, rfl⟩) rfl
    · have := (hP' q (List.mem_append_right _ hq)).lt
      omega
  refine mw_go hr hS hF (fun H1 locs1 hP1 hD1 hk hS1 => hst ▸ kk H1 locs1 (va_P_perm (va_P_iff.mpr fun q hq => ?_) hp1) (va_D_perm (va_D_iff.mpr ⟨?_, fun q hq => ?_⟩) hp1) hS1)
  · rcases List.mem_append.mp hq with h | h
    · exact va_P_iff.mp hP1 q h
    · have h1 := hP' q (List.mem_append_right _ h)
      exact h1.kept (hk q.1 h1.lt (hno q h))
  · rw [List.map_append, List.nodup_append]
    have hD1 := va_D_iff.mp hD1
    refine ⟨hD1.1, hD'.1.2.1, fun a ha b hb hab => ?_⟩
    obtain ⟨q1, hq1, rfl⟩ := List.mem_map.mp ha
    obtain ⟨q2, hq2, rfl⟩ := List.mem_map.mp hb
    exact hno q2 hq2 (by rw [← hab]; exact hD1.2 q1 hq1)
  · rcases List.mem_append.mp hq with h | h
    · exact hF _ ((va_D_iff.mp hD1).2 q h)
    · exact hD'.2 q (List.mem_append_right _ h)
end MWB
/-! n blocks, told by a function -/
def wR : Nat → (Nat → va_W) → va_W
  | 0, _ => []
  | n + 1, f => wR n f ++ f n
def offB (f : Nat → va_W) (i : Nat) : Nat → va_W := fun j => if j = i then [] else f j
theorem wR_congr : ∀ (n : Nat) (f g : Nat → va_W), (∀ j, j < n → f j = g j) → wR n f = wR n g
  | 0, _, _, _ => rfl
  | n + 1, f, g, h => by
    show wR n f ++ f n = wR n g ++ g n
    rw [wR_congr n f g (fun j hj => h j (by omega)), h n (by omega)]
theorem wR_pick : ∀ (n : Nat) (f : Nat → va_W) (i : Nat), i < n → (wR n f).Perm (f i ++ wR n (offB f i))
  | 0, _, _, h => by omega
  | n + 1, f, i, h => by
    show (wR n f ++ f n).Perm (f i ++ (wR n (offB f i) ++ offB f i n))
    by_cases hi : i = n
    · subst hi
      have h1 : wR i (offB f i) = wR i f := wR_congr i _ _ (fun j hj => if_neg (by omega))
      have h2 : offB f i i = [] := if_pos rfl
      rw [h1, h2, List.append_nil]
      exact List.perm_append_comm
    · have h2 : offB f i n = f n := if_neg (by omega)
      rw [h2, ← List.append_assoc]
      exact (wR_pick n f i (by omega)).append_right _
theorem off_eq {f g : Nat → va_W} {i : Nat} (h : ∀ j, j ≠ i → f j = g j) : offB f i = offB g i := by
  funext j
  unfold offB
  by_cases hj : j = i
  · rw [if_pos hj, if_pos hj]
  · rw [if_neg hj, if_neg hj, h j hj]
theorem wR_pick2 (n : Nat) (f : Nat → va_W) (i j : Nat) (hi : i < n) (hj : j < n) (hij : j ≠ i) : (wR n f).Perm (f i ++ f j ++ wR n (offB (offB f i) j)) := by
  have h2 : offB f i j = f j := if_neg hij
  refine (wR_pick n f i hi).trans ?_
  rw [List.append_assoc, ← h2]
  exact (wR_pick n (offB f i) j hj).append_left _
theorem wR_swap (n : Nat) (f g : Nat → va_W) (i j : Nat) (hi : i < n) (hj : j < n) (hij : j ≠ i) (h1 : g i = f j) (h2 : g j = f i) (h3 : ∀ k, k ≠ i → k ≠ j → g k = f k) : (wR n f).Perm (wR n g) := by
  refine (wR_pick2 n f i j hi hj hij).trans (List.Perm.trans ?_ (wR_pick2 n g i j hi hj hij).symm)
  rw [h1, h2]
  have h4 : offB (offB g i) j = offB (offB f i) j := by
    funext k
    unfold offB
    by_cases a : k = j
    · rw [if_pos a, if_pos a]
    · by_cases b : k = i
      · rw [if_neg a, if_neg a, if_pos b, if_pos b]
      · rw [if_neg a, if_neg a, if_neg b, if_neg b, h3 k b a]
  rw [h4]
  exact List.perm_append_comm.append_right _
theorem pe_in {a x y z : va_W} (h : x.Perm (y ++ z)) : (a ++ x).Perm (y ++ (a ++ z)) := by
  refine (h.append_left a).trans ?_
  rw [← List.append_assoc, ← List.append_assoc]
  exact List.perm_append_comm.append_right _
/-! the cells of the class itself, by roles: 0 grid, 1 spare, 2 trial, 3 to 6 history; block 7 is the text -/
abbrev wD (xo hx : Nat) (cH : ClassId) (a0 a1 a2 : Nat) (hf : Nat → Option Nat) (t : Nat) (F : Nat → Int → Int) : va_W := [(xo, .inr (2, [.ref a0, .ref a1, .ref a2, .ref hx, .int (iI (F 4 0)), .ref t, .int (iI (F 6 0)), .int (iI (F 7 0)), .int (iI (F 8 0)), .int (iI (F 9 0))])), (hx, .inl (cH, 4, .inr (.inr (.inr (.inr hf)))))]
def blk (t : Nat) (ta : Nat → Nat) (cI cC : ClassId) (T : Nat → Int → Int) (ga : Nat → Nat) (gd : Nat → Nat → Nat) (Gs : Nat → Nat → Int → Int) (r : Nat) : va_W := if r = 7 then wT t ta cI cC T else wG (ga r) (gd r) cI (Gs r)
def hfO (ga : Nat → Nat) : Nat → Option Nat := fun j => some (ga (3 + j))
abbrev wX (xo hx t : Nat) (ta : Nat → Nat) (cI cC cH : ClassId) (ga : Nat → Nat) (gd : Nat → Nat → Nat) (F T : Nat → Int → Int) (Gs : Nat → Nat → Int → Int) : va_W := wD xo hx cH (ga 0) (ga 1) (ga 2) (hfO ga) t F ++ wR 8 (blk t ta cI cC T ga gd Gs)
def upS (Gs : Nat → Nat → Int → Int) (i : Nat) (X : Nat → Int → Int) : Nat → Nat → Int → Int := fun r => if r = i then X else Gs r
theorem upS_s (Gs : Nat → Nat → Int → Int) (i : Nat) (X : Nat → Int → Int) : upS Gs i X i = X := if_pos rfl
theorem blk_g {t : Nat} {ta : Nat → Nat} {cI cC : ClassId} {T : Nat → Int → Int} {ga : Nat → Nat} {gd : Nat → Nat → Nat} {Gs : Nat → Nat → Int → Int} {i : Nat} (hi : i < 7) : blk t ta cI cC T ga gd Gs i = wG (ga i) (gd i) cI (Gs i) := if_neg (by omega)
theorem blk_t {t : Nat} {ta : Nat → Nat} {cI cC : ClassId} {T : Nat → Int → Int} {ga : Nat → Nat} {gd : Nat → Nat → Nat} {Gs : Nat → Nat → Int → Int} : blk t ta cI cC T ga gd Gs 7 = wT t ta cI cC T := if_pos rfl
theorem blk_up {t : Nat} {ta : Nat → Nat} {cI cC : ClassId} {T : Nat → Int → Int} {ga : Nat → Nat} {gd : Nat → Nat → Nat} {Gs : Nat → Nat → Int → Int} {i : Nat} {X : Nat → Int → Int} : ∀ j, j ≠ i → blk t ta cI cC T ga gd Gs j = blk t ta cI cC T ga gd (upS Gs i X) j := fun j hj => by
  unfold blk upS
  by_cases h : j = 7
  · rw [if_pos h, if_pos h]
  · rw [if_neg h, if_neg h, if_neg hj]
theorem blk_tx {t : Nat} {ta : Nat → Nat} {cI cC : ClassId} {T T' : Nat → Int → Int} {ga : Nat → Nat} {gd : Nat → Nat → Nat} {Gs : Nat → Nat → Int → Int} : ∀ j, j ≠ 7 → blk t ta cI cC T ga gd Gs j = blk t ta cI cC T' ga gd Gs j := fun j hj => by
  unfold blk
  rw [if_neg hj, if_neg hj]
section MWX
variable {p : Program} {l : Launch} {e : Env} {R : Room} {s : State} {m : MethodId} {args : Array Value} {below : List Frame} {meth : Method} {c : Code} {H : Heap} {locs : List Loc} {cells slots : Nat} {Q : State → Prop}
variable {cc : ByteArray} {pc nL : Nat} {ls : Array Slot} {rest : List Value} {D : va_G} {A : Nat → Prop} {r : Option Value}
variable {w0 : va_W} {t : Nat} {ta : Nat → Nat} {cI cC : ClassId} {ga : Nat → Nat} {gd : Nat → Nat → Nat} {T : Nat → Int → Int} {Gs : Nat → Nat → Int → Int} {cl : List vw_C}
theorem x_Pg (i : Nat) (hi : i < 7) (hP : va_P D cl (w0 ++ wR 8 (blk t ta cI cC T ga gd Gs)) H) : va_P D cl (wG (ga i) (gd i) cI (Gs i)) H := by
  have h := va_P_perm hP (pe_in (wR_pick 8 _ i (by omega)))
  rw [blk_g hi] at h
  exact va_P_left h
theorem x_Dg (i : Nat) (hi : i < 7) (hD : va_D A (w0 ++ wR 8 (blk t ta cI cC T ga gd Gs))) : va_D A (wG (ga i) (gd i) cI (Gs i)) := by
  have h := va_D_perm hD (pe_in (wR_pick 8 _ i (by omega)))
  rw [blk_g hi] at h
  exact va_D_left h
theorem x_Pt (hP : va_P D cl (w0 ++ wR 8 (blk t ta cI cC T ga gd Gs)) H) : va_P D cl (wT t ta cI cC T) H := by
  have h := va_P_perm hP (pe_in (wR_pick 8 _ 7 (by omega)))
  rw [blk_t] at h
  exact va_P_left h
theorem x_Dt (hD : va_D A (w0 ++ wR 8 (blk t ta cI cC T ga gd Gs))) : va_D A (wT t ta cI cC T) := by
  have h := va_D_perm hD (pe_in (wR_pick 8 _ 7 (by omega)))
  rw [blk_t] at h
  exact va_D_left h
theorem x_Pgg (i j : Nat) (hi : i < 7) (hj : j < 7) (hij : j ≠ i) (hP : va_P D cl (w0 ++ wR 8 (blk t ta cI cC T ga gd Gs)) H) : va_P D cl (wG (ga i) (gd i) cI (Gs i) ++ wG (ga j) (gd j) cI (Gs j)) H := by
  have h := va_P_perm hP (pe_in (wR_pick2 8 _ i j (by omega) (by omega) hij))
  rw [blk_g hi, blk_g hj] at h
  exact va_P_left h
theorem x_Dgg (i j : Nat) (hi : i < 7) (hj : j < 7) (hij : j ≠ i) (hD : va_D A (w0 ++ wR 8 (blk t ta cI cC T ga gd Gs))) : va_D A (wG (ga i) (gd i) cI (Gs i) ++ wG (ga j) (gd j) cI (Gs j)) := by
  have h := va_D_perm hD (pe_in (wR_pick2 8 _ i j (by omega) (by omega) hij))
  rw [blk_g hi, blk_g hj] at h
  exact va_D_left h
theorem x_Ptg (j : Nat) (hj : j < 7) (hP : va_P D cl (w0 ++ wR 8 (blk t ta cI cC T ga gd Gs)) H) : va_P D cl (wT t ta cI cC T ++ wG (ga j) (gd j) cI (Gs j)) H := by
  have h := va_P_perm hP (pe_in (wR_pick2 8 _ 7 j (by omega) (by omega) (by omega)))
  rw [blk_t, blk_g hj] at h
  exact va_P_left h
theorem x_Dtg (j : Nat) (hj : j < 7) (hD : va_D A (w0 ++ wR 8 (blk t ta cI cC T ga gd Gs))) : va_D A (wT t ta cI cC T ++ wG (ga j) (gd j) cI (Gs j)) := by
  have h := va_D_perm hD (pe_in (wR_pick2 8 _ 7 j (by omega) (by omega) (by omega)))
  rw [blk_t, blk_g hj] at h
  exact va_D_left h
theorem x_off2 {f g : Nat → va_W} {i j : Nat} (h : ∀ k, k ≠ i → k ≠ j → f k = g k) : offB (offB f i) j = offB (offB g i) j := by
  funext k
  unfold offB
  by_cases a : k = j
  · rw [if_pos a, if_pos a]
  · by_cases b : k = i
    · rw [if_neg a, if_neg a, if_pos b, if_pos b]
    · rw [if_neg a, if_neg a, if_neg b, if_neg b, h k b a]
/-- the callee has the grid of role i -/
theorem mw_gr {st0 st1 : List Value} (i : Nat) (hi : i < 7) {X : Nat → Int → Int} (hr : MRun p l e R s m args below meth c H locs cells slots D (wG (ga i) (gd i) cI (Gs i)) (wG (ga i) (gd i) cI X) r (F0 m pc ls st0) rest) (hP : va_P D vwCl (w0 ++ wR 8 (blk t ta cI cC T ga gd Gs)) H) (hD : va_D A (w0 ++ wR 8 (blk t ta cI cC T ga gd Gs))) (hS : va_S A s.heap H locs) (hA : ∀ q : Nat, s.heap.size ≤ q → A q) (hst : r.toList ++ rest = st1)
    (kk : ∀ (H1 : Heap) (locs1 : List Loc), va_P D vwCl (w0 ++ wR 8 (blk t ta cI cC T ga gd (upS Gs i X))) H1 → va_D A (w0 ++ wR 8 (blk t ta cI cC T ga gd (upS Gs i X))) → va_S A s.heap H1 locs1 → W p l e R s m args below meth c H1 locs1 cells slots Q (F0 m (pc + 3) ls st1)) : W p l e R s m args below meth c H locs cells slots Q (F0 m pc ls st0) := by
  refine mw_blk (wr := w0 ++ wR 8 (offB (blk t ta cI cC T ga gd Gs) i)) hr hP hD hS hA ?_ ?_ hst kk
  · have h := pe_in (a := w0) (wR_pick 8 (blk t ta cI cC T ga gd Gs) i (by omega))
    rw [blk_g hi] at h
    exact h
  · have h := pe_in (a := w0) (wR_pick 8 (blk t ta cI cC T ga gd (upS Gs i X)) i (by omega))
    rw [blk_g hi, upS_s, ← off_eq (blk_up (X := X))] at h
    exact h.symm
/-- the callee only reads the grid of role i -/
theorem mw_grR {st0 st1 : List Value} (i : Nat) (hi : i < 7) (hr : MRun p l e R s m args below meth c H locs cells slots D (wG (ga i) (gd i) cI (Gs i)) (wG (ga i) (gd i) cI (Gs i)) r (F0 m pc ls st0) rest) (hP : va_P D vwCl (w0 ++ wR 8 (blk t ta cI cC T ga gd Gs)) H) (hD : va_D A (w0 ++ wR 8 (blk t ta cI cC T ga gd Gs))) (hS : va_S A s.heap H locs) (hA : ∀ q : Nat, s.heap.size ≤ q → A q) (hst : r.toList ++ rest = st1)
    (kk : ∀ (H1 : Heap) (locs1 : List Loc), va_P D vwCl (w0 ++ wR 8 (blk t ta cI cC T ga gd Gs)) H1 → va_D A (w0 ++ wR 8 (blk t ta cI cC T ga gd Gs)) → va_S A s.heap H1 locs1 → W p l e R s m args below meth c H1 locs1 cells slots Q (F0 m (pc + 3) ls st1)) : W p l e R s m args below meth c H locs cells slots Q (F0 m pc ls st0) := by
  have h := pe_in (a := w0) (wR_pick 8 (blk t ta cI cC T ga gd Gs) i (by omega))
  rw [blk_g hi] at h
  exact mw_blk hr hP hD hS hA h h.symm hst kk
/-- the callee has the grid of role i, and reads that of role j -/
theorem mw_gg {st0 st1 : List Value} (i j : Nat) (hi : i < 7) (hj : j < 7) (hij : j ≠ i) {X : Nat → Int → Int} (hr : MRun p l e R s m args below meth c H locs cells slots D (wG (ga i) (gd i) cI (Gs i) ++ wG (ga j) (gd j) cI (Gs j)) (wG (ga i) (gd i) cI X ++ wG (ga j) (gd j) cI (Gs j)) r (F0 m pc ls st0) rest) (hP : va_P D vwCl (w0 ++ wR 8 (blk t ta cI cC T ga gd Gs)) H) (hD : va_D A (w0 ++ wR 8 (blk t ta cI cC T ga gd Gs))) (hS : va_S A s.heap H locs) (hA : ∀ q : Nat, s.heap.size ≤ q → A q) (hst : r.toList ++ rest = st1)
    (kk : ∀ (H1 : Heap) (locs1 : List Loc), va_P D vwCl (w0 ++ wR 8 (blk t ta cI cC T ga gd (upS Gs i X))) H1 → va_D A (w0 ++ wR 8 (blk t ta cI cC T ga gd (upS Gs i X))) → va_S A s.heap H1 locs1 → W p l e R s m args below meth c H1 locs1 cells slots Q (F0 m (pc + 3) ls st1)) : W p l e R s m args below meth c H locs cells slots Q (F0 m pc ls st0) := by
  refine mw_blk (wr := w0 ++ wR 8 (offB (offB (blk t ta cI cC T ga gd Gs) i) j)) hr hP hD hS hA ?_ ?_ hst kk
  · have h := pe_in (a := w0) (wR_pick2 8 (blk t ta cI cC T ga gd Gs) i j (by omega) (by omega) hij)
    rw [blk_g hi, blk_g hj] at h
    exact h
  · have h := pe_in (a := w0) (wR_pick2 8 (blk t ta cI cC T ga gd (upS Gs i X)) i j (by omega) (by omega) hij)
    rw [blk_g hi, blk_g hj, upS_s, show upS Gs i X j = Gs j from if_neg hij, ← x_off2 (fun k a _ => blk_up (X := X) k a)] at h
    exact h.symm
/-- the callee has the text -/
theorem mw_tx {st0 st1 : List Value} {X : Nat → Int → Int} (hr : MRun p l e R s m args below meth c H locs cells slots D (wT t ta cI cC T) (wT t ta cI cC X) r (F0 m pc ls st0) rest) (hP : va_P D vwCl (w0 ++ wR 8 (blk t ta cI cC T ga gd Gs)) H) (hD : va_D A (w0 ++ wR 8 (blk t ta cI cC T ga gd Gs))) (hS : va_S A s.heap H locs) (hA : ∀ q : Nat, s.heap.size ≤ q → A q) (hst : r.toList ++ rest = st1)
    (kk : ∀ (H1 : Heap) (locs1 : List Loc), va_P D vwCl (w0 ++ wR 8 (blk t ta cI cC X ga gd Gs)) H1 → va_D A (w0 ++ wR 8 (blk t ta cI cC X ga gd Gs)) → va_S A s.heap H1 locs1 → W p l e R s m args below meth c H1 locs1 cells slots Q (F0 m (pc + 3) ls st1)) : W p l e R s m args below meth c H locs cells slots Q (F0 m pc ls st0) := by
  refine mw_blk (wr := w0 ++ wR 8 (offB (blk t ta cI cC T ga gd Gs) 7)) hr hP hD hS hA ?_ ?_ hst kk
  · have h := pe_in (a := w0) (wR_pick 8 (blk t ta cI cC T ga gd Gs) 7 (by omega))
    rw [blk_t] at h
    exact h
  · have h := pe_in (a := w0) (wR_pick 8 (blk t ta cI cC X ga gd Gs) 7 (by omega))
    rw [blk_t, ← off_eq (blk_tx (T := T))] at h
    exact h.symm
/-- the callee reads the text and has the grid of role j -/
theorem mw_tg {st0 st1 : List Value} (j : Nat) (hj : j < 7) {X : Nat → Int → Int} (hr : MRun p l e R s m args below meth c H locs cells slots D (wT t ta cI cC T ++ wG (ga j) (gd j) cI (Gs j)) (wT t ta cI cC T ++ wG (ga j) (gd j) cI X) r (F0 m pc ls st0) rest) (hP : va_P D vwCl (w0 ++ wR 8 (blk t ta cI cC T ga gd Gs)) H) (hD : va_D A (w0 ++ wR 8 (blk t ta cI cC T ga gd Gs))) (hS : va_S A s.heap H locs) (hA : ∀ q : Nat, s.heap.size ≤ q → A q) (hst : r.toList ++ rest = st1)
    (kk : ∀ (H1 : Heap) (locs1 : List Loc), va_P D vwCl (w0 ++ wR 8 (blk t ta cI cC T ga gd (upS Gs j X))) H1 → va_D A (w0 ++ wR 8 (blk t ta cI cC T ga gd (upS Gs j X))) → va_S A s.heap H1 locs1 → W p l e R s m args below meth c H1 locs1 cells slots Q (F0 m (pc + 3) ls st1)) : W p l e R s m args below meth c H locs cells slots Q (F0 m pc ls st0) := by
  refine mw_blk (wr := w0 ++ wR 8 (offB (offB (blk t ta cI cC T ga gd Gs) 7) j)) hr hP hD hS hA ?_ ?_ hst kk
  · have h := pe_in (a := w0) (wR_pick2 8 (blk t ta cI cC T ga gd Gs) 7 j (by omega) (by omega) (by omega))
    rw [blk_t, blk_g hj] at h
    exact h
  · have h := pe_in (a := w0) (wR_pick2 8 (blk t ta cI cC T ga gd (upS Gs j X)) 7 j (by omega) (by omega) (by omega))
    rw [blk_t, blk_g hj, upS_s, ← x_off2 (fun k _ b => blk_up (X := X) k b)] at h
    exact h.symm
theorem x_aald {Rw : va_W} {xo hx : Nat} {cH : ClassId} {a0 a1 a2 : Nat} {hf : Nat → Option Nat} {F : Nat → Int → Int} {tys : List (ClassId × FieldType)} {t0 : Nat} (hx' : p.tables.exec = Jvm.exec) (hb : c.code = cc) (hK : va_K D cl tys s) (hP : va_P D cl (wD xo hx cH a0 a1 a2 hf t F ++ Rw) H) (ht : tys[t0]? = some (cH, .object RX0)) {z : Int} {k : Nat} (hz : z = (k : Int)) (hk : k < 4) {v : Nat} (hv : hf k = some v) (hdg : decode cc pc = .ok (.aaload, 1))
    (kk : W p l e R s m args below meth c H locs cells slots Q (F0 m (pc + 1) ls (.ref v :: rest))) : W p l e R s m args below meth c H locs cells slots Q (F0 m pc ls (.int (iI z) :: .ref hx :: rest)) := by
  refine va_aldq hx' hb hK hP 1 t0 (n := 4) (f := hf) rfl ht (iI_in (by omega) (by omega) (by omega)) hdg ?_
  rw [iI_clamp (by omega) (by omega), show z.toNat = k from by omega, hv]
  exact kk
theorem x_aast {Rw : va_W} {H0 : Heap} {xo hx : Nat} {cH : ClassId} {a0 a1 a2 : Nat} {hf : Nat → Option Nat} {F : Nat → Int → Int} {tys : List (ClassId × FieldType)} {t0 : Nat} (hx' : p.tables.exec = Jvm.exec) (hb : c.code = cc) (hK : va_K D vwCl tys s) (hP : va_P D vwCl (wD xo hx cH a0 a1 a2 hf t F ++ Rw) H) (hD : va_D A (wD xo hx cH a0 a1 a2 hf t F ++ Rw)) (hS : va_S A H0 H locs) (ht : tys[t0]? = some (cH, .object RX0)) {z : Int} {k : Nat} (hz : z = (k : Int)) (hk : k < 4) {v : Nat} {vs : List Value} (hm : ((v, .inr (0, vs)) : Nat × va_E) ∈ Rw) (hdg : decode cc pc = .ok (.aastore, 1))
    (kk : ∀ (H1 : Heap) (locs1 : List Loc), va_P D vwCl (wD xo hx cH a0 a1 a2 (va_up hf k (some v)) t F ++ Rw) H1 → va_D A (wD xo hx cH a0 a1 a2 (va_up hf k (some v)) t F ++ Rw) → va_S A H0 H1 locs1 → W p l e R s m args below meth c H1 locs1 cells slots Q (F0 m (pc + 1) ls rest)) : W p l e R s m args below meth c H locs cells slots Q (F0 m pc ls (.ref v :: .int (iI z) :: .ref hx :: rest)) := by
  obtain ⟨q, hq⟩ := List.mem_iff_getElem?.mp (List.mem_append_right (wD xo hx cH a0 a1 a2 hf t F) hm)
  refine va_astq hx' hb hK hP hD hS 1 t0 q 0 (n := 4) (f := hf) rfl ht hq rfl (iI_in (by omega) (by omega) (by omega)) hdg ?_
  rw [iI_clamp (by omega) (by omega), show z.toNat = k from by omega]
  exact kk
theorem x_mem (i : Nat) (hi : i < 7) : ∃ vs : List Value, ((ga i, .inr (0, vs)) : Nat × va_E) ∈ wR 8 (blk t ta cI cC T ga gd Gs) := by
  have h := wR_pick 8 (blk t ta cI cC T ga gd Gs) i (by omega)
  rw [blk_g hi] at h
  exact ⟨_, h.mem_iff.mpr (List.mem_append_left _ (List.mem_cons_self ..))⟩
end MWX
/-! roles exchanged -/
def swp {α : Type} (i j : Nat) (f : Nat → α) : Nat → α := fun r => if r = i then f j else if r = j then f i else f r
def rotS {α : Type} (f : Nat → α) : Nat → α := swp 5 6 (swp 4 5 (swp 3 4 f))
theorem wR_swp (t : Nat) (ta : Nat → Nat) (cI cC : ClassId) (T : Nat → Int → Int) (ga : Nat → Nat) (gd : Nat → Nat → Nat) (Gs : Nat → Nat → Int → Int) (i j : Nat) (hi : i < 7) (hj : j < 7) (hij : j ≠ i) : (wR 8 (blk t ta cI cC T ga gd Gs)).Perm (wR 8 (blk t ta cI cC T (swp i j ga) (swp i j gd) (swp i j Gs))) := by
  refine wR_swap 8 _ _ i j (by omega) (by omega) hij ?_ ?_ ?_
  · rw [blk_g hi, blk_g hj]; simp [swp]
  · rw [blk_g hi, blk_g hj]; simp [swp, hij]
  · intro k h1 h2
    unfold blk
    by_cases h : k = 7
    · rw [if_pos h, if_pos h]
    · rw [if_neg h, if_neg h]; simp [swp, h1, h2]
theorem wR_rot (t : Nat) (ta : Nat → Nat) (cI cC : ClassId) (T : Nat → Int → Int) (ga : Nat → Nat) (gd : Nat → Nat → Nat) (Gs : Nat → Nat → Int → Int) : (wR 8 (blk t ta cI cC T ga gd Gs)).Perm (wR 8 (blk t ta cI cC T (rotS ga) (rotS gd) (rotS Gs))) :=
  ((wR_swp t ta cI cC T ga gd Gs 3 4 (by omega) (by omega) (by omega)).trans (wR_swp t ta cI cC T _ _ _ 4 5 (by omega) (by omega) (by omega))).trans (wR_swp t ta cI cC T _ _ _ 5 6 (by omega) (by omega) (by omega))
