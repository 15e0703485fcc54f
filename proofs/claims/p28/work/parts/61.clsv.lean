/-! values of the class's looking ahead, and of its texts -/
def fnZ (f : Nat → Int) : Nat → Nat → Nat
  | 0, i => i
  | n + 1, i => if f i ≠ 0 then i else fnZ f n (i + 1)
theorem fn_hit {f : Nat → Int} {n i : Nat} (hn : 0 < n) (h : f i ≠ 0) : fnZ f n i = i := by
  obtain ⟨m, rfl⟩ : ∃ m, n = m + 1 := ⟨n - 1, by omega⟩
  exact if_pos h
theorem fn_end {f : Nat → Int} {n i : Nat} (hn : n = 0) : fnZ f n i = i := by subst hn; rfl
theorem fn_next {f : Nat → Int} {N i : Nat} {v : Nat} (hv : v = fnZ f (N - i) i) (hn : i < N) (h : f i = 0) : v = fnZ f (N - (i + 1)) (i + 1) := by
  obtain ⟨m, hm⟩ : ∃ m, N - i = m + 1 := ⟨N - i - 1, by omega⟩
  rw [hv, hm, show N - (i + 1) = m by omega]
  exact if_neg (fun q => q h)
/-- as fnZ, but one more where it is found -/
def fn1Z (f : Nat → Int) : Nat → Nat → Nat
  | 0, i => i
  | n + 1, i => if f i ≠ 0 then i + 1 else fn1Z f n (i + 1)
theorem fn1_hit {f : Nat → Int} {n i : Nat} (hn : 0 < n) (h : f i ≠ 0) : fn1Z f n i = i + 1 := by
  obtain ⟨m, rfl⟩ : ∃ m, n = m + 1 := ⟨n - 1, by omega⟩
  exact if_pos h
theorem fn1_end {f : Nat → Int} {n i : Nat} (hn : n = 0) : fn1Z f n i = i := by subst hn; rfl
theorem fn1_next {f : Nat → Int} {N i : Nat} {v : Nat} (hv : v = fn1Z f (N - i) i) (hn : i < N) (h : f i = 0) : v = fn1Z f (N - (i + 1)) (i + 1) := by
  obtain ⟨m, hm⟩ : ∃ m, N - i = m + 1 := ⟨N - i - 1, by omega⟩
  rw [hv, hm, show N - (i + 1) = m by omega]
  exact if_neg (fun q => q h)
theorem lst_next1 {f : Nat → Int} {N i : Nat} {v : Int} (hv : v = lstZ f (N - i) i) (hn : i < N) (h : f i = 0) : v = lstZ f (N - (i + 1)) (i + 1) := by
  obtain ⟨m, hm⟩ : ∃ m, N - i = m + 1 := ⟨N - i - 1, by omega⟩
  rw [hv, hm, show N - (i + 1) = m by omega]
  exact if_neg (fun q => q h)
theorem lst_end {f : Nat → Int} {n i : Nat} (hn : n = 0) : lstZ f n i = 0 := by subst hn; rfl
def safZ (G : Nat → Int → Int) (a : Int) : Int := if lbZ G a = 0 then 1 else 0
theorem saf_01 (G : Nat → Int → Int) (a : Int) : safZ G a = 0 ∨ safZ G a = 1 := by unfold safZ; omega
def isT (G : Nat → Int → Int) (a : Int) : Nat → Int → Int := daysStZ (upG G 11 2 a) (fn1Z (laZ G a) 60 0)
theorem dl_1 (X : Nat → Int → Int) : daysLostZ X (1 : Int).toNat = endLostZ X := Int.zero_add _
def saX (G X : Nat → Int → Int) : Nat → (Nat → Int → Int)
  | 0 => X
  | i + 1 => isT G (60 - (i : Int))
def sgN (G : Nat → Int → Int) : Nat → Nat → Nat
  | 0, i => i
  | n + 1, i => if lbZ G (60 - (i : Int)) = 0 then i + 1 else sgN G n (i + 1)
theorem sg_hit {G : Nat → Int → Int} {n i : Nat} (hn : 0 < n) (h : lbZ G (60 - (i : Int)) = 0) : sgN G n i = i + 1 := by
  obtain ⟨m, rfl⟩ : ∃ m, n = m + 1 := ⟨n - 1, by omega⟩
  exact if_pos h
theorem sg_next {G : Nat → Int → Int} {N i : Nat} {v : Nat} (hv : v = sgN G (N - i) i) (hn : i < N) (h : lbZ G (60 - (i : Int)) ≠ 0) : v = sgN G (N - (i + 1)) (i + 1) := by
  obtain ⟨m, hm⟩ : ∃ m, N - i = m + 1 := ⟨N - i - 1, by omega⟩
  rw [hv, hm, show N - (i + 1) = m by omega]
  exact if_neg h
theorem sg_end {G : Nat → Int → Int} {n i : Nat} (hn : n = 0) : sgN G n i = i := by subst hn; rfl
/-- a bit set, whether it stood or not -/
def borZ (a : Int) (f : Nat) : Int := if bitZ a f = 0 then a + ((2 ^ f : Nat) : Int) else a
theorem bor_dec : ∀ f : Nat, f < 6 → ∀ a : Nat, a < 64 → iI (a : Int) ||| (iI 1 <<< (iI (f : Int) &&& 31)) = iI (borZ (a : Int) f) ∧ 0 ≤ borZ (a : Int) f ∧ borZ (a : Int) f < 64 := by decide +kernel
theorem bor_eq {a f : Int} (hf : 0 ≤ f ∧ f ≤ 5) (ha : 0 ≤ a ∧ a < 64) : iI a ||| (iI 1 <<< (iI f &&& 31)) = iI (borZ a f.toNat) := by
  have h := (bor_dec f.toNat (by omega) a.toNat (by omega)).1
  rw [show ((a.toNat : Nat) : Int) = a by omega, show ((f.toNat : Nat) : Int) = f by omega] at h
  exact h
theorem bor_bd {a f : Int} (hf : 0 ≤ f ∧ f ≤ 5) (ha : 0 ≤ a ∧ a < 64) : 0 ≤ borZ a f.toNat ∧ borZ a f.toNat < 64 := by
  have h := (bor_dec f.toNat (by omega) a.toNat (by omega)).2
  rw [show ((a.toNat : Nat) : Int) = a by omega] at h
  exact h
/-- the rows taken and the row found, after i turns -/
def wsZ (G : Nat → Int → Int) : Nat → Int × Int
  | 0 => (0, 0)
  | i + 1 => (borZ (wsZ G i).1 ((wbZ G (wsZ G i).1 6).1).toNat, (wbZ G (wsZ G i).1 6).1)
theorem ws_bd (G : Nat → Int → Int) : ∀ i : Nat, (0 ≤ (wsZ G i).1 ∧ (wsZ G i).1 < 64) ∧ (0 ≤ (wsZ G i).2 ∧ (wsZ G i).2 ≤ 5) := by
  intro i
  induction i with
  | zero => exact ⟨⟨(by decide : (0 : Int) ≤ 0), (by decide : (0 : Int) < 64)⟩, (by decide : (0 : Int) ≤ 0), (by decide : (0 : Int) ≤ 5)⟩
  | succ i ih =>
    have h := (wb_bd G (wsZ G i).1 6 (by omega)).1
    exact ⟨bor_bd h ih.1, h⟩
/-! the text: numbers in their range, the place goes on -/
def InvK1 (T : Nat → Int → Int) : Prop := ∀ p : Int, 0 ≤ p → p < 3 → 0 ≤ T 3 p ∧ T 3 p ≤ 999
theorem rn_K1 {T : Nat → Int → Int} (h : InvK1 T) (w : Int) : InvK1 (rnZ T w) := by
  unfold rnZ
  split
  · exact h
  · rename_i h1
    have h1 := dig_bd h1
    split
    · exact upI_P h (by omega)
    · rename_i h2
      have h2 := dig_bd h2
      split
      · exact upI_P h (by omega)
      · rename_i h3
        have h3 := dig_bd h3
        exact upI_P h (by omega)
theorem st_K1 {T : Nat → Int → Int} (h : InvK1 T) (w sep : Int) : InvK1 (stT T w sep) := by
  unfold stT
  repeat' split
  all_goals exact rn_K1 h w
theorem st_4 (T : Nat → Int → Int) (w sep : Int) : T 4 0 ≤ stT T w sep 4 0 ∧ stT T w sep 4 0 ≤ T 4 0 + 4 := by
  have h := rn_4 T w
  unfold stT
  repeat' split
  · omega
  · show T 4 0 ≤ rnZ T w 4 0 + 1 ∧ rnZ T w 4 0 + 1 ≤ T 4 0 + 4; omega
  · omega
theorem st_k (T : Nat → Int → Int) (w sep : Int) (k : Nat) (h3 : k ≠ 3) (h4 : k ≠ 4) : stT T w sep k = T k := by
  unfold stT
  repeat' split
  · exact rn_k T w k h3 h4
  · show upG (rnZ T w) 4 0 (rnZ T w 4 0 + 1) k = T k
    unfold upG
    rw [if_neg h4]
    exact rn_k T w k h3 h4
  · exact rn_k T w k h3 h4
theorem ro_K1 {T : Nat → Int → Int} (h : InvK1 T) (q : Int) : InvK1 (roT T q) := by
  have h2 : InvK1 (ro2 T q) := h
  unfold roT
  repeat' split
  · exact h
  · exact st_K1 h2 _ _
  · exact st_K1 h2 _ _
  · exact st_K1 (st_K1 h2 _ _) _ _
  · exact st_K1 h2 _ _
  · exact st_K1 (st_K1 h2 _ _) _ _
  · exact st_K1 (st_K1 (st_K1 h2 _ _) _ _) _ _
theorem ro_4 (T : Nat → Int → Int) (q : Int) : q ≤ roT T q 4 0 ∧ roT T q 4 0 ≤ q + 13 := by
  have e2 : ro2 T q 4 0 = q + 1 := rfl
  have a1 := st_4 (ro2 T q) 0 59
  have a2 := st_4 (ro2 T q) 0 44
  have a3 := st_4 (stT (ro2 T q) 0 44) 1 59
  have a4 := st_4 (stT (ro2 T q) 0 44) 1 44
  have a5 := st_4 (stT (stT (ro2 T q) 0 44) 1 44) 2 59
  unfold roT
  repeat' split
  · show q ≤ q ∧ q ≤ q + 13; omega
  all_goals omega
theorem ro_pos {T : Nat → Int → Int} {q : Int} (h : roV T q ≠ 0) : q + 1 ≤ roT T q 4 0 := by
  have e2 : ro2 T q 4 0 = q + 1 := rfl
  have a1 := st_4 (ro2 T q) 0 59
  have a2 := st_4 (ro2 T q) 0 44
  have a3 := st_4 (stT (ro2 T q) 0 44) 1 59
  have a4 := st_4 (stT (ro2 T q) 0 44) 1 44
  have a5 := st_4 (stT (stT (ro2 T q) 0 44) 1 44) 2 59
  unfold roV at h
  unfold roT
  by_cases c : nosZ (chrZ (T 0) (T 1 0) q) = 0
  · rw [if_pos c] at h; exact absurd rfl h
  · rw [if_neg c]
    repeat' split
    all_goals omega
theorem ro_k (T : Nat → Int → Int) (q : Int) (k : Nat) (h2 : k ≠ 2) (h3 : k ≠ 3) (h4 : k ≠ 4) : roT T q k = T k := by
  have e1 : ro1 T q k = T k := by unfold ro1 upG; rw [if_neg h2, if_neg h4]
  have e2 : ro2 T q k = T k := by unfold ro2 upG; rw [if_neg h4, if_neg h2]
  unfold roT
  repeat' split
  · exact e1
  · rw [st_k _ _ _ k h3 h4, e2]
  · rw [st_k _ _ _ k h3 h4, e2]
  · rw [st_k _ _ _ k h3 h4, st_k _ _ _ k h3 h4, e2]
  · rw [st_k _ _ _ k h3 h4, e2]
  · rw [st_k _ _ _ k h3 h4, st_k _ _ _ k h3 h4, e2]
  · rw [st_k _ _ _ k h3 h4, st_k _ _ _ k h3 h4, st_k _ _ _ k h3 h4, e2]
theorem ro_2 (T : Nat → Int → Int) (q : Int) : roT T q 2 0 = chrZ (T 0) (T 1 0) q := by
  have e1 : ro1 T q 2 0 = chrZ (T 0) (T 1 0) q := rfl
  have e2 : ro2 T q 2 0 = chrZ (T 0) (T 1 0) q := rfl
  have hs : ∀ (X : Nat → Int → Int) (w sep : Int), stT X w sep 2 0 = X 2 0 := fun X w sep => congrFun (st_k X w sep 2 (by decide) (by decide)) 0
  unfold roT
  repeat' split
  · exact e1
  all_goals simp only [hs, e2]
theorem ro_inv {T : Nat → Int → Int} (h : InvT T) (q : Int) : InvT (roT T q) := by
  unfold InvT
  rw [ro_k T q 0 (by decide) (by decide) (by decide), ro_k T q 1 (by decide) (by decide) (by decide)]
  exact h
/-! the class's doing of a text: T the text, X the trial grid, n orders done, s the place, f the fault, c its cause -/
abbrev FF : Type := (Nat → Int → Int) × (Nat → Int → Int) × Int × Int × Int × Int
abbrev FF.T (q : FF) : Nat → Int → Int := q.1
abbrev FF.X (q : FF) : Nat → Int → Int := q.2.1
abbrev FF.n (q : FF) : Int := q.2.2.1
abbrev FF.s (q : FF) : Int := q.2.2.2.1
abbrev FF.f (q : FF) : Int := q.2.2.2.2.1
abbrev FF.c (q : FF) : Int := q.2.2.2.2.2
def ffS (q : FF) : FF :=
  if roV q.T q.s = 0 then ⟨roT q.T q.s, q.X, q.n, q.s, 1, roT q.T q.s 4 0 - q.s⟩
  else if doV q.X (roT q.T q.s 2 0) (roT q.T q.s 3 0) (roT q.T q.s 3 1) (roT q.T q.s 3 2) < 0 then ⟨roT q.T q.s, doG q.X (roT q.T q.s 2 0) (roT q.T q.s 3 0) (roT q.T q.s 3 1) (roT q.T q.s 3 2), q.n, q.s, 2, doV q.X (roT q.T q.s 2 0) (roT q.T q.s 3 0) (roT q.T q.s 3 1) (roT q.T q.s 3 2)⟩
  else ⟨roT q.T q.s, doG q.X (roT q.T q.s 2 0) (roT q.T q.s 3 0) (roT q.T q.s 3 1) (roT q.T q.s 3 2), q.n + 1, roT q.T q.s 4 0, 0, 0⟩
abbrev ffG (q : FF) : Prop := q.f = 0 ∧ q.s < q.T 1 0
def ffI (G T : Nat → Int → Int) : Nat → FF
  | 0 => ⟨T, G, 0, 0, 0, 0⟩
  | i + 1 => if ffG (ffI G T i) then ffS (ffI G T i) else ffI G T i
theorem ff_go {G T : Nat → Int → Int} {i : Nat} (h : ffG (ffI G T i)) : ffI G T (i + 1) = ffS (ffI G T i) := if_pos h
theorem ff_stop {G T : Nat → Int → Int} {i m : Nat} (h : ¬ ffG (ffI G T i)) (hm : i ≤ m) : ffI G T m = ffI G T i := by
  obtain ⟨k, rfl⟩ : ∃ k, m = i + k := ⟨m - i, by omega⟩
  clear hm
  induction k with
  | zero => rfl
  | succ k ih =>
    show (if ffG (ffI G T (i + k)) then ffS (ffI G T (i + k)) else ffI G T (i + k)) = ffI G T i
    rw [ih, if_neg h]
def ffF (F : Nat → Int → Int) (q : FF) : Nat → Int → Int := if q.f = 0 then upG F 6 0 q.n else upG (upG (upG (upG F 6 0 q.n) 7 0 q.s) 8 0 q.f) 9 0 q.c
def ffV (q : FF) : Int := if q.f = 0 then 0 else 1
theorem ff_inv {B : Int} {G T : Nat → Int → Int} (hI : InvG B G) (hT : InvT T) (hK : InvK1 T) (hB : B + 35640 ≤ 100000000) : ∀ i : Nat, i ≤ 60 → InvG (B + 594 * i) (ffI G T i).X ∧ InvT (ffI G T i).T ∧ InvK1 (ffI G T i).T ∧ (0 ≤ (ffI G T i).s ∧ (ffI G T i).s ≤ 73) ∧ ((ffI G T i).f = 0 → (i : Int) ≤ (ffI G T i).s ∨ (ffI G T i).T 1 0 ≤ (ffI G T i).s) ∧ (0 ≤ (ffI G T i).n ∧ (ffI G T i).n ≤ i) ∧ (0 ≤ (ffI G T i).f ∧ (ffI G T i).f ≤ 2) ∧ (-1000003 ≤ (ffI G T i).c ∧ (ffI G T i).c ≤ 100000) ∧ (ffI G T i).T 0 = T 0 ∧ (ffI G T i).T 1 = T 1 := by
  intro i
  induction i with
  | zero =>
    intro _
    refine ⟨by rw [show B + 594 * ((0 : Nat) : Int) = B by omega]; exact hI, hT, hK, ?_, ?_, ?_, ?_, ?_, rfl, rfl⟩
    · show 0 ≤ (0 : Int) ∧ (0 : Int) ≤ 73; omega
    · intro _; left; show ((0 : Nat) : Int) ≤ (0 : Int); omega
    · show 0 ≤ (0 : Int) ∧ (0 : Int) ≤ ((0 : Nat) : Int); omega
    · show 0 ≤ (0 : Int) ∧ (0 : Int) ≤ 2; omega
    · show -1000003 ≤ (0 : Int) ∧ (0 : Int) ≤ 100000; omega
  | succ i ih =>
    intro hn
    obtain ⟨i1, i2, i3, i4, i5, i6, i7, i8, i9, i10⟩ := ih (by omega)
    by_cases h : ffG (ffI G T i)
    · rw [ff_go h]
      generalize hq : ffI G T i = q at *
      obtain ⟨h0, h1⟩ := h
      have r1 := ro_inv i2 q.s
      have r2 := ro_K1 i3 q.s
      have r4 := ro_4 q.T q.s
      have hl := i2.1
      have k0 := ro_k q.T q.s 0 (by decide) (by decide) (by decide)
      have k1 := ro_k q.T q.s 1 (by decide) (by decide) (by decide)
      have hm : ∀ X, InvG (B + 594 * i) X → InvG (B + 594 * ((i + 1 : Nat) : Int)) X := fun X w => invG_mono w (by omega) (by omega)
      unfold ffS
      by_cases e1 : roV q.T q.s = 0
      · rw [if_pos e1]
        refine ⟨hm _ i1, r1, r2, i4, fun w => absurd (show (1 : Int) = 0 from w) (by decide), ?_, ?_, ?_, k0.trans i9, k1.trans i10⟩
        · show 0 ≤ q.n ∧ q.n ≤ ((i + 1 : Nat) : Int); omega
        · show 0 ≤ (1 : Int) ∧ (1 : Int) ≤ 2; omega
        · show -1000003 ≤ roT q.T q.s 4 0 - q.s ∧ roT q.T q.s 4 0 - q.s ≤ 100000; omega
      · rw [if_neg e1]
        have hp := ro_pos e1
        have dv := do_v i1 (by omega) (roT q.T q.s 2 0) (roT q.T q.s 3 0) (roT q.T q.s 3 1) (roT q.T q.s 3 2)
        have di := do_i i1 (by omega) (roT q.T q.s 2 0) (roT q.T q.s 3 0) (roT q.T q.s 3 1) (roT q.T q.s 3 2)
        have di2 := invG_mono di (B' := B + 594 * ((i + 1 : Nat) : Int)) (by omega) (by omega)
        split
        · refine ⟨di2, r1, r2, i4, fun w => absurd (show (2 : Int) = 0 from w) (by decide), ?_, ?_, ?_, k0.trans i9, k1.trans i10⟩
          · show 0 ≤ q.n ∧ q.n ≤ ((i + 1 : Nat) : Int); omega
          · show 0 ≤ (2 : Int) ∧ (2 : Int) ≤ 2; omega
          · exact dv
        · have k1' := congrFun k1 0
          refine ⟨di2, r1, r2, ?_, fun _ => ?_, ?_, ?_, ?_, k0.trans i9, k1.trans i10⟩
          · show 0 ≤ roT q.T q.s 4 0 ∧ roT q.T q.s 4 0 ≤ 73; omega
          · show ((i + 1 : Nat) : Int) ≤ roT q.T q.s 4 0 ∨ roT q.T q.s 1 0 ≤ roT q.T q.s 4 0
            have := i5 h0
            omega
          · show 0 ≤ q.n + 1 ∧ q.n + 1 ≤ ((i + 1 : Nat) : Int); omega
          · show 0 ≤ (0 : Int) ∧ (0 : Int) ≤ 2; omega
          · show -1000003 ≤ (0 : Int) ∧ (0 : Int) ≤ 100000; omega
    · have hs := ff_stop h (Nat.le_succ i)
      rw [show i.succ = i + 1 from rfl] at hs
      rw [hs]
      refine ⟨invG_mono i1 (by omega) (by omega), i2, i3, i4, ?_, by omega, i7, i8, i9, i10⟩
      intro w
      right
      unfold ffG at h
      have := i5 w
      omega
/-- while it goes on, as many are done as turns were made -/
theorem ff_n {G T : Nat → Int → Int} : ∀ i : Nat, ffG (ffI G T i) → (ffI G T i).n = i := by
  intro i
  induction i with
  | zero => intro _; rfl
  | succ i ih =>
    intro h
    by_cases g : ffG (ffI G T i)
    · rw [ff_go g] at h ⊢
      have e := ih g
      generalize ffI G T i = q at *
      unfold ffS at h ⊢
      split
      · rename_i c; rw [if_pos c] at h; exact absurd (show (1 : Int) = 0 from h.1) (by decide)
      · rename_i c
        rw [if_neg c] at h
        split
        · rename_i c2; rw [if_pos c2] at h; exact absurd (show (2 : Int) = 0 from h.1) (by decide)
        · show q.n + 1 = ((i + 1 : Nat) : Int); omega
    · have hs := ff_stop g (Nat.le_succ i)
      rw [show i.succ = i + 1 from rfl] at hs
      rw [hs] at h
      exact absurd h g
theorem ws_1 (G : Nat → Int → Int) (i : Nat) : (wsZ G (i + 1)).1 = borZ (wsZ G i).1 ((wbZ G (wsZ G i).1 6).1).toNat := by simp only [wsZ]
theorem ws_2 (G : Nat → Int → Int) (i : Nat) : (wsZ G (i + 1)).2 = (wbZ G (wsZ G i).1 6).1 := by simp only [wsZ]
theorem dy_step (G : Nat → Int → Int) (i : Nat) : daysStZ G (i + 1) = daysStZ (daysStZ G i) (1 : Int).toNat := by
  have h : (1 : Int).toNat = 0 + 1 := by decide
  rw [h]
  simp only [daysStZ]
theorem sa_step (G X : Nat → Int → Int) (i : Nat) : saX G X (i + 1) = isT G (60 - (i : Int)) := by simp only [saX]
theorem dy_0 (G : Nat → Int → Int) : daysStZ G 0 = G := by simp only [daysStZ]
theorem ff_e1 {G T : Nat → Int → Int} {i : Nat} (hf : FF.f (ffI G T i) = 0) (hs : FF.s (ffI G T i) < FF.T (ffI G T i) 1 0) (hi : i < 60) (h : roV (FF.T (ffI G T i)) (FF.s (ffI G T i)) = 0) : ffI G T 60 = (roT (FF.T (ffI G T i)) (FF.s (ffI G T i)), FF.X (ffI G T i), FF.n (ffI G T i), FF.s (ffI G T i), 1, roT (FF.T (ffI G T i)) (FF.s (ffI G T i)) 4 0 - FF.s (ffI G T i)) := by
  have h1 : ffI G T (i + 1) = ffS (ffI G T i) := ff_go ⟨hf, hs⟩
  have h2 : ffS (ffI G T i) = _ := if_pos h
  have h3 : ¬ ffG (ffI G T (i + 1)) := by rw [h1, h2]; intro w; exact absurd (show (1 : Int) = 0 from w.1) (by decide)
  rw [ff_stop h3 (by omega), h1, h2]
theorem ff_e2 {G T : Nat → Int → Int} {i : Nat} (hf : FF.f (ffI G T i) = 0) (hs : FF.s (ffI G T i) < FF.T (ffI G T i) 1 0) (hi : i < 60) (h : roV (FF.T (ffI G T i)) (FF.s (ffI G T i)) ≠ 0) (h9 : doV (FF.X (ffI G T i)) (roT (FF.T (ffI G T i)) (FF.s (ffI G T i)) 2 0) (roT (FF.T (ffI G T i)) (FF.s (ffI G T i)) 3 0) (roT (FF.T (ffI G T i)) (FF.s (ffI G T i)) 3 1) (roT (FF.T (ffI G T i)) (FF.s (ffI G T i)) 3 2) < 0) : ffI G T 60 = (roT (FF.T (ffI G T i)) (FF.s (ffI G T i)), doG (FF.X (ffI G T i)) (roT (FF.T (ffI G T i)) (FF.s (ffI G T i)) 2 0) (roT (FF.T (ffI G T i)) (FF.s (ffI G T i)) 3 0) (roT (FF.T (ffI G T i)) (FF.s (ffI G T i)) 3 1) (roT (FF.T (ffI G T i)) (FF.s (ffI G T i)) 3 2), FF.n (ffI G T i), FF.s (ffI G T i), 2, doV (FF.X (ffI G T i)) (roT (FF.T (ffI G T i)) (FF.s (ffI G T i)) 2 0) (roT (FF.T (ffI G T i)) (FF.s (ffI G T i)) 3 0) (roT (FF.T (ffI G T i)) (FF.s (ffI G T i)) 3 1) (roT (FF.T (ffI G T i)) (FF.s (ffI G T i)) 3 2)) := by
  have h1 : ffI G T (i + 1) = ffS (ffI G T i) := ff_go ⟨hf, hs⟩
  have h2 : ffS (ffI G T i) = _ := (if_neg h).trans (if_pos h9)
  have h3 : ¬ ffG (ffI G T (i + 1)) := by rw [h1, h2]; intro w; exact absurd (show (2 : Int) = 0 from w.1) (by decide)
  rw [ff_stop h3 (by omega), h1, h2]
theorem ff_e3 {G T : Nat → Int → Int} {i : Nat} (hi : i ≤ 60) (h : 60 ≤ i ∨ FF.T (ffI G T i) 1 0 ≤ FF.s (ffI G T i)) : ffI G T 60 = ffI G T i := by
  by_cases c : i = 60
  · rw [c]
  · exact ff_stop (fun w => by have := w.2; omega) hi
theorem ff_e4 {G T : Nat → Int → Int} {i : Nat} (hf : FF.f (ffI G T i) = 0) (hs : FF.s (ffI G T i) < FF.T (ffI G T i) 1 0) (h : roV (FF.T (ffI G T i)) (FF.s (ffI G T i)) ≠ 0) (h9 : 0 ≤ doV (FF.X (ffI G T i)) (roT (FF.T (ffI G T i)) (FF.s (ffI G T i)) 2 0) (roT (FF.T (ffI G T i)) (FF.s (ffI G T i)) 3 0) (roT (FF.T (ffI G T i)) (FF.s (ffI G T i)) 3 1) (roT (FF.T (ffI G T i)) (FF.s (ffI G T i)) 3 2)) : ffI G T (i + 1) = (roT (FF.T (ffI G T i)) (FF.s (ffI G T i)), doG (FF.X (ffI G T i)) (roT (FF.T (ffI G T i)) (FF.s (ffI G T i)) 2 0) (roT (FF.T (ffI G T i)) (FF.s (ffI G T i)) 3 0) (roT (FF.T (ffI G T i)) (FF.s (ffI G T i)) 3 1) (roT (FF.T (ffI G T i)) (FF.s (ffI G T i)) 3 2), FF.n (ffI G T i) + 1, roT (FF.T (ffI G T i)) (FF.s (ffI G T i)) 4 0, 0, 0) := by
  have h1 : ffI G T (i + 1) = ffS (ffI G T i) := ff_go ⟨hf, hs⟩
  have h2 : ffS (ffI G T i) = _ := (if_neg h).trans (if_neg (Int.not_lt.mpr h9))
  rw [h1, h2]
theorem ffF_ok {F : Nat → Int → Int} {q : FF} {n : Int} (h : FF.f q = 0) (hn : FF.n q = n) : ffF F q = upG F 6 0 n := by unfold ffF; rw [if_pos h, hn]
theorem ffF_bad {F T X : Nat → Int → Int} {n m s f c : Int} (h : f ≠ 0) (hn : n = m) : ffF F (T, X, n, s, f, c) = upG (upG (upG (upG F 6 0 m) 7 0 s) 8 0 f) 9 0 c := by subst hn; exact if_neg h
theorem ffV_01 (q : FF) : ffV q = 0 ∨ ffV q = 1 := by unfold ffV; omega
