/-! all orders of the reference's text -/
def InvK (S : Nat → Int → Int) : Prop := ∀ i : Int, 0 ≤ i → i < 3 → 0 ≤ S 11 i ∧ S 11 i ≤ 999
theorem upI_P {F : Int → Int} {w v : Int} (hF : ∀ i : Int, 0 ≤ i → i < 3 → 0 ≤ F i ∧ F i ≤ 999) (hv : 0 ≤ v ∧ v ≤ 999) : ∀ i : Int, 0 ≤ i → i < 3 → 0 ≤ upI F w v i ∧ upI F w v i ≤ 999 := by
  intro i h0 h1
  unfold upI
  split
  · exact hv
  · exact hF i h0 h1
theorem dig_bd {k : Int} (h : ¬ digZ k = 0) : 48 ≤ k ∧ k ≤ 57 := by unfold digZ at h; omega
theorem tn_K {S : Nat → Int → Int} (h : InvK S) (w : Int) : InvK (tnS S w) := by
  unfold tnS
  split
  · exact upI_P h (by omega)
  · split
    · exact upI_P h (by omega)
    · rename_i h1
      have h1 := dig_bd h1
      split
      · exact upI_P h (by omega)
      · rename_i h2
        have h2 := dig_bd h2
        split
        · exact upI_P h (by omega)
        · rename_i h3
          have h3 := dig_bd h3
          exact upI_P h (by omega)
theorem tk_K {S : Nat → Int → Int} (h : InvK S) (b : Int) : InvK (tkS S b) := by
  unfold InvK
  rw [tk_k S b 11 (by decide) (by decide)]
  exact h
theorem to_K {S : Nat → Int → Int} (h : InvK S) : InvK (toS S) := by
  have h1 : InvK (toN S) := tn_K (tk_K (S := toA S) h _) 0
  unfold toS
  split
  · exact tk_K h1 _
  · split
    · exact tk_K (tn_K (tk_K h1 _) 1) _
    · exact tk_K (tn_K (tk_K (tn_K (tk_K h1 _) 1) _) 2) _
theorem ok_let {k : Int} (h : okZ k = 1) : k = 119 ∨ k = 97 ∨ k = 102 ∨ k = 109 ∨ k = 114 ∨ k = 100 := by unfold okZ at h; omega
theorem eo_bd (S : Nat → Int → Int) : -1000003 ≤ eoV S ∧ eoV S ≤ 0 := by
  have h1 : -1000003 ≤ ewV (S 11 0) (S 11 1) (S 11 2) ∧ ewV (S 11 0) (S 11 1) (S 11 2) ≤ 0 := by unfold ewV; omega
  have h2 : -1000003 ≤ efV (gOf (S 0)) (S 11 0) (S 11 1) (S 11 2) ∧ efV (gOf (S 0)) (S 11 0) (S 11 1) (S 11 2) ≤ 0 := by unfold efV; omega
  have h3 : -1000003 ≤ emV (gOf (S 0)) (S 11 0) (S 11 1) ∧ emV (gOf (S 0)) (S 11 0) (S 11 1) ≤ 0 := by unfold emV; omega
  have h4 : -1000003 ≤ erV (S 11 0) (S 11 1) ∧ erV (S 11 0) (S 11 1) ≤ 0 := by unfold erV; omega
  have h5 : -1000003 ≤ edV (gOf (S 0)) (S 11 0) ∧ edV (gOf (S 0)) (S 11 0) ≤ 0 := by unfold edV; omega
  unfold eoV
  omega
def stpS (T : Nat → Int → Int) : Nat → Int → Int :=
  if T 9 0 = 0 then upG (upG T 12 0 1) 13 0 (T 7 0 - T 8 0) else if eoV T < 0 then upG (upG T 12 0 2) 13 0 (eoV T) else doS T
def cnT (T : Nat → Int → Int) : Int := if T 9 0 = 0 then 0 else if eoV T < 0 then 0 else 1
def daI (S : Nat → Int → Int) : Nat → (Nat → Int → Int)
  | 0 => S
  | n + 1 => if daI S n 12 0 = 0 ∧ daI S n 7 0 < daI S n 6 0 then stpS (toS (daI S n)) else daI S n
def daC (S : Nat → Int → Int) : Nat → Int
  | 0 => 0
  | n + 1 => if daI S n 12 0 = 0 ∧ daI S n 7 0 < daI S n 6 0 then daC S n + cnT (toS (daI S n)) else daC S n
theorem da_go {S : Nat → Int → Int} {n : Nat} {Z : Nat → Int → Int} (hZ : Z = toS (daI S n)) (h : daI S n 12 0 = 0 ∧ daI S n 7 0 < daI S n 6 0) : daI S (n + 1) = stpS Z ∧ daC S (n + 1) = daC S n + cnT Z := by
  subst hZ
  exact ⟨if_pos h, if_pos h⟩
theorem da_stop {S : Nat → Int → Int} {n : Nat} (h : ¬ (daI S n 12 0 = 0 ∧ daI S n 7 0 < daI S n 6 0)) : ∀ k : Nat, daI S (n + k) = daI S n ∧ daC S (n + k) = daC S n := by
  intro k
  induction k with
  | zero => exact ⟨rfl, rfl⟩
  | succ k ih =>
    have h2 : ¬ (daI S (n + k) 12 0 = 0 ∧ daI S (n + k) 7 0 < daI S (n + k) 6 0) := by rw [ih.1]; exact h
    exact ⟨(if_neg h2).trans ih.1, (if_neg h2).trans ih.2⟩
theorem da_stop2 {S : Nat → Int → Int} {n m : Nat} (h : ¬ (daI S n 12 0 = 0 ∧ daI S n 7 0 < daI S n 6 0)) (hm : n ≤ m) : daI S m = daI S n ∧ daC S m = daC S n := by
  have h2 := da_stop h (m - n)
  rw [show n + (m - n) = m by omega] at h2
  exact h2
theorem da_all {B : Int} {X : Nat → Int → Int} (hI : InvG B (gOf (X 0))) (hT : InvS X) (hK : InvK X) (h7 : X 7 0 = 0) (h12 : X 12 0 = 0) (hB : B + 35640 ≤ 100000000) : ∀ n : Nat, n ≤ 60 → InvG (B + 594 * n) (gOf (daI X n 0)) ∧ InvS (daI X n) ∧ InvK (daI X n) ∧ (0 ≤ daI X n 7 0 ∧ daI X n 7 0 ≤ 73) ∧ (0 ≤ daI X n 12 0 ∧ daI X n 12 0 ≤ 2) ∧ (daI X n 12 0 = 0 → (n : Int) ≤ daI X n 7 0 ∨ daI X n 6 0 ≤ daI X n 7 0) ∧ (0 ≤ daC X n ∧ daC X n ≤ n) := by
  intro n
  induction n with
  | zero =>
    intro _
    refine ⟨by rw [show B + 594 * ((0 : Nat) : Int) = B by omega]; exact hI, hT, hK, ?_, ?_, ?_, ?_⟩
    · show 0 ≤ X 7 0 ∧ X 7 0 ≤ 73; omega
    · show 0 ≤ X 12 0 ∧ X 12 0 ≤ 2; omega
    · intro _; show ((0 : Nat) : Int) ≤ X 7 0 ∨ X 6 0 ≤ X 7 0; omega
    · show 0 ≤ (0 : Int) ∧ (0 : Int) ≤ ((0 : Nat) : Int); omega
  | succ n ih =>
    intro hn
    obtain ⟨i1, i2, i3, i4, i5, i6, i7⟩ := ih (by omega)
    by_cases h : daI X n 12 0 = 0 ∧ daI X n 7 0 < daI X n 6 0
    · obtain ⟨Z, hZ⟩ : ∃ Z, Z = toS (daI X n) := ⟨_, rfl⟩
      have hg := da_go hZ h
      have z1 : InvG (B + 594 * n) (gOf (Z 0)) := by rw [hZ, to_g]; exact i1
      have z2 : InvS Z := by rw [hZ]; exact to_inv i2
      have z3 : InvK Z := by rw [hZ]; exact to_K i3
      have z7 := to_7 (daI X n)
      have z7f : Z 9 0 ≠ 0 → daI X n 7 0 + 1 ≤ Z 7 0 := by rw [hZ]; exact fun q => (to_form q).2
      have z12 : Z 12 0 = daI X n 12 0 := by rw [hZ]; exact congrFun (to_k _ 12 (by decide) (by decide) (by decide) (by decide) (by decide)) 0
      have z6 : Z 6 0 = daI X n 6 0 := by rw [hZ]; exact congrFun (to_k _ 6 (by decide) (by decide) (by decide) (by decide) (by decide)) 0
      rw [← hZ] at z7
      have t6 := i2.1
      have ht := h.2
      have hb : ((n + 1 : Nat) : Int) = n + 1 := by omega
      rw [hg.1, hg.2, hb]
      have hc : 0 ≤ cnT Z ∧ cnT Z ≤ 1 := by unfold cnT; omega
      have hmono : ∀ G, InvG (B + 594 * n) G → InvG (B + 594 * (n + 1)) G := fun G q => invG_mono q (by omega) (by omega)
      unfold stpS
      by_cases e1 : Z 9 0 = 0
      · rw [if_pos e1]
        refine ⟨hmono _ z1, z2, z3, ?_, ?_, ?_, by omega⟩
        · show 0 ≤ Z 7 0 ∧ Z 7 0 ≤ 73; omega
        · show 0 ≤ (1 : Int) ∧ (1 : Int) ≤ 2; omega
        · intro q; exact absurd (show (1 : Int) = 0 from q) (by decide)
      · rw [if_neg e1]
        by_cases e2 : eoV Z < 0
        · rw [if_pos e2]
          refine ⟨hmono _ z1, z2, z3, ?_, ?_, ?_, by omega⟩
          · show 0 ≤ Z 7 0 ∧ Z 7 0 ≤ 73; omega
          · show 0 ≤ (2 : Int) ∧ (2 : Int) ≤ 2; omega
          · intro q; exact absurd (show (2 : Int) = 0 from q) (by decide)
        · rw [if_neg e2]
          have he := eo_bd Z
          have h8 := inv_do z1 (by omega) (by omega)
          have k6 := congrFun (do_k Z 6 (by decide)) 0
          have k7 := congrFun (do_k Z 7 (by decide)) 0
          have k12 := congrFun (do_k Z 12 (by decide)) 0
          have h9 := z7f e1
          refine ⟨invG_mono h8 (by omega) (by omega), ?_, ?_, ?_, ?_, ?_, by omega⟩
          · unfold InvS; rw [do_k Z 5 (by decide), do_k Z 6 (by decide)]; exact z2
          · unfold InvK; rw [do_k Z 11 (by decide)]; exact z3
          · omega
          · omega
          · intro _; omega
    · have hs := da_stop2 h (Nat.le_succ n)
      rw [show n.succ = n + 1 from rfl] at hs
      rw [hs.1, hs.2]
      refine ⟨invG_mono i1 (by omega) (by omega), i2, i3, i4, i5, ?_, by omega⟩
      intro q; omega
theorem to_invG {B : Int} {S : Nat → Int → Int} (h : InvG B (gOf (S 0))) : InvG B (gOf (toS S 0)) := by rw [to_g]; exact h
