/-! the class at birth: its cells put in the order of the roles -/
def w28 : Cond := .methodLinkNest RX2 28 yX1_init RX2
def eX2 (U : State) : Prop := va_AO RX0 U ∧ va_Nw w28 U
theorem dfX0 : ∀ j, j < 13 → defaultValue (tyX0 j) = vp_V [.null, .null, .null, .null, .null, .null, .null, .null, .null, .null, .null, .null, .int (iI 0)] j := fun j hj => by
  rcases (show j = 0 ∨ j = 1 ∨ j = 2 ∨ j = 3 ∨ j = 4 ∨ j = 5 ∨ j = 6 ∨ j = 7 ∨ j = 8 ∨ j = 9 ∨ j = 10 ∨ j = 11 ∨ j = 12 by omega) with rfl | rfl | rfl | rfl | rfl | rfl | rfl | rfl | rfl | rfl | rfl | rfl | rfl <;> rfl
theorem dfX1 : ∀ j, j < 5 → defaultValue (tyX1 j) = vp_V [.null, .int (iI 0), .int (iI 0), .null, .int (iI 0)] j := fun j hj => by
  rcases (show j = 0 ∨ j = 1 ∨ j = 2 ∨ j = 3 ∨ j = 4 by omega) with rfl | rfl | rfl | rfl | rfl <;> rfl
theorem pe_front1 (b : va_W) (x : Nat × va_E) (r : va_W) : (b ++ x :: r).Perm (x :: (b ++ r)) := List.perm_middle
theorem pe_front2 (b : va_W) (x y : Nat × va_E) (r : va_W) : (b ++ x :: y :: r).Perm (x :: y :: (b ++ r)) := List.perm_middle.trans (List.perm_middle.cons x)
theorem pe_back (x y : Nat × va_E) (r : va_W) : ((x :: r) ++ [y]).Perm (x :: y :: r) := by
  show (x :: (r ++ [y])).Perm (x :: y :: r)
  exact (List.perm_append_comm (l₁ := r) (l₂ := [y])).cons x
theorem pe_step {a X Y : va_W} (h : X.Perm Y) : (a ++ X).Perm (Y ++ a) := (List.Perm.append_left a h).trans List.perm_append_comm
theorem hfO_born (ga : Nat → Nat) (j : Nat) (hj : j < 4) : va_up (va_up (va_up (va_up (fun _ => none) 0 (some (ga 3))) 1 (some (ga 4))) 2 (some (ga 5))) 3 (some (ga 6)) j = hfO ga j := by
  rcases (show j = 0 ∨ j = 1 ∨ j = 2 ∨ j = 3 by omega) with rfl | rfl | rfl | rfl <;> rfl
theorem born_perm (xo xh t : Nat) (ta : Nat → Nat) (cI cC cH : ClassId) (ga : Nat → Nat) (gd : Nat → Nat → Nat) (hf : Nat → Option Nat) : ((((xo, .inr (2, [.ref (ga 0), .ref (ga 1), .ref (ga 2), .ref xh, .int (iI 0), .ref t, .int (iI 0), .int (iI 0), .int (iI 0), .int (iI 0)])) : Nat × va_E) :: ((xh, .inl (cH, 4, .inr (.inr (.inr (.inr hf))))) : Nat × va_E) :: (wT t ta cI cC zS ++ (wG (ga 6) (gd 6) cI gI ++ (wG (ga 5) (gd 5) cI gI ++ (wG (ga 4) (gd 4) cI gI ++ (wG (ga 3) (gd 3) cI gI ++ (wG (ga 2) (gd 2) cI gI ++ (wG (ga 1) (gd 1) cI gI ++ (wG (ga 0) (gd 0) cI gI ++ [])))))))))).Perm (wD xo xh cH (ga 0) (ga 1) (ga 2) hf t zS ++ wR 8 (blk t ta cI cC zS ga gd (fun _ => gI))) := by
  have h : (wT t ta cI cC zS ++ (wG (ga 6) (gd 6) cI gI ++ (wG (ga 5) (gd 5) cI gI ++ (wG (ga 4) (gd 4) cI gI ++ (wG (ga 3) (gd 3) cI gI ++ (wG (ga 2) (gd 2) cI gI ++ (wG (ga 1) (gd 1) cI gI ++ (wG (ga 0) (gd 0) cI gI ++ [])))))))).Perm (wR 8 (blk t ta cI cC zS ga gd (fun _ => gI))) :=
    pe_step (a := blk t ta cI cC zS ga gd (fun _ => gI) 7) (pe_step (a := blk t ta cI cC zS ga gd (fun _ => gI) 6) (pe_step (a := blk t ta cI cC zS ga gd (fun _ => gI) 5) (pe_step (a := blk t ta cI cC zS ga gd (fun _ => gI) 4) (pe_step (a := blk t ta cI cC zS ga gd (fun _ => gI) 3) (pe_step (a := blk t ta cI cC zS ga gd (fun _ => gI) 2) (pe_step (a := blk t ta cI cC zS ga gd (fun _ => gI) 1) (pe_step (a := blk t ta cI cC zS ga gd (fun _ => gI) 0) (List.Perm.refl []))))))))
  exact (h.cons _).cons _
theorem at_arrq {D : va_G} {cl : List vw_C} {a n : Nat} {c1 : ClassId} {f g : Nat → Option Nat} {H : Heap} (h : va_at D cl (a, .inl (c1, n, .inr (.inr (.inr (.inr f))))) H) (e : ∀ j, j < n → f j = g j) : va_at D cl (a, .inl (c1, n, .inr (.inr (.inr (.inr g))))) H := by
  show H[a]? = some (vp_cell c1 (n, .inr (.inr (.inr (.inr g)))))
  have h1 : H[a]? = some (vp_cell c1 (n, .inr (.inr (.inr (.inr f))))) := h
  have h2 : vp_cell c1 (n, .inr (.inr (.inr (.inr g)))) = vp_cell c1 (n, .inr (.inr (.inr (.inr f)))) := by
    show arrV c1 n (fun j => va_rf (g j)) = arrV c1 n (fun j => va_rf (f j))
    unfold arrV
    congr 2
    funext j
    show va_rf (g j.val) = va_rf (f j.val)
    rw [e j.val j.isLt]
  rw [h2]
  exact h1
theorem born_XP {D : va_G} {cl : List vw_C} {xo xh t : Nat} {cH : ClassId} {ga : Nat → Nat} {F : Nat → Int → Int} {R : va_W} {H : Heap} (h : va_P D cl (wD xo xh cH (ga 0) (ga 1) (ga 2) (va_up (va_up (va_up (va_up (fun _ => none) 0 (some (ga 3))) 1 (some (ga 4))) 2 (some (ga 5))) 3 (some (ga 6))) t F ++ R) H) : va_P D cl (wD xo xh cH (ga 0) (ga 1) (ga 2) (hfO ga) t F ++ R) H := by
  rw [va_P_iff] at h ⊢
  intro q hq
  rcases List.mem_cons.mp hq with rfl | hq
  · exact h _ (List.mem_cons_self ..)
  · rcases List.mem_cons.mp hq with rfl | hq
    · exact at_arrq (h _ (List.mem_cons_of_mem _ (List.mem_cons_self ..))) (hfO_born ga)
    · exact h _ (List.mem_cons_of_mem _ (List.mem_cons_of_mem _ hq))
theorem born_XD {A : Nat → Prop} {xo xh t : Nat} {cH : ClassId} {a0 a1 a2 : Nat} {f g : Nat → Option Nat} {F : Nat → Int → Int} {R : va_W} (h : va_D A (wD xo xh cH a0 a1 a2 f t F ++ R)) : va_D A (wD xo xh cH a0 a1 a2 g t F ++ R) := by
  have h1 := va_D_iff.mp h
  refine va_D_iff.mpr ⟨h1.1, fun q hq => ?_⟩
  rcases List.mem_cons.mp hq with rfl | hq
  · exact h1.2 _ (List.mem_cons_self ..)
  · rcases List.mem_cons.mp hq with rfl | hq
    · exact h1.2 (xh, .inl (cH, 4, .inr (.inr (.inr (.inr f))))) (List.mem_cons_of_mem _ (List.mem_cons_self ..))
    · exact h1.2 _ (List.mem_cons_of_mem _ (List.mem_cons_of_mem _ hq))
