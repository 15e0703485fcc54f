/-! the reading of a text: how far it comes, and that only its signs count -/
def Seg (f : Int → Int) (a b : Int) : Prop := ∀ p : Int, a ≤ p → p < b → f p ≠ 59 ∧ f p ≠ 46
theorem seg_0 (f : Int → Int) (a : Int) : Seg f a a := fun p h1 h2 => absurd h1 (by omega)
theorem seg_1 {f : Int → Int} {a b : Int} (h : Seg f a b) (h59 : f b ≠ 59) (h46 : f b ≠ 46) : Seg f a (b + 1) := fun p h1 h2 => by
  by_cases e : p = b
  · subst e; exact ⟨h59, h46⟩
  · exact h p h1 (by omega)
theorem seg_app {f : Int → Int} {a b c : Int} (h : Seg f a b) (g : Seg f b c) : Seg f a c := fun p h1 h2 => by
  by_cases e : p < b
  · exact h p h1 e
  · exact g p (by omega) h2
theorem cnt_segN {f : Int → Int} {a : Int} (c : Int) (hc : c = 59 ∨ c = 46) (ha : 0 ≤ a) : ∀ n : Nat, Seg f a (a + n) → cntC f c (a + n).toNat = cntC f c a.toNat := by
  intro n
  induction n with
  | zero => intro _; rw [show a + ((0 : Nat) : Int) = a by omega]
  | succ n ih =>
    intro h
    have h1 := ih (fun p p1 p2 => h p p1 (by omega))
    have h2 := h (a + n) (by omega) (by omega)
    rw [show (a + ((n + 1 : Nat) : Int)).toNat = (a + n).toNat + 1 by omega, cnt_s, show (((a + (n : Int)).toNat : Nat) : Int) = a + n by omega, if_neg (by omega), h1]
    omega
theorem cnt_seg {f : Int → Int} {a b : Int} (c : Int) (hc : c = 59 ∨ c = 46) (ha : 0 ≤ a) (hab : a ≤ b) (h : Seg f a b) : cntC f c b.toNat = cntC f c a.toNat := by
  have e := cnt_segN (f := f) c hc ha (b - a).toNat (by rw [show a + (((b - a).toNat : Nat) : Int) = b by omega]; exact h)
  rw [show a + (((b - a).toNat : Nat) : Int) = b by omega] at e
  exact e
theorem chr_in {F : Int → Int} {len i : Int} (h : chrZ F len i ≠ 0) : 0 ≤ i ∧ i < len ∧ F i = chrZ F len i := by
  unfold chrZ at h ⊢
  by_cases c : i < 0 ∨ len - 1 < i
  · rw [if_pos c] at h; exact absurd rfl h
  · rw [if_neg c]
    exact ⟨by omega, by omega, rfl⟩
theorem dig_in {F : Int → Int} {len i : Int} (h : ¬ digZ (chrZ F len i) = 0) : 0 ≤ i ∧ i < len ∧ F i ≠ 59 ∧ F i ≠ 46 := by
  have hd : 48 ≤ chrZ F len i ∧ chrZ F len i ≤ 57 := by unfold digZ at h; omega
  have h2 := chr_in (F := F) (len := len) (i := i) (by omega)
  omega
theorem rn_seg (T : Nat → Int → Int) (w : Int) (h : T 4 0 ≤ T 1 0) : rnZ T w 4 0 ≤ T 1 0 ∧ Seg (T 0) (T 4 0) (rnZ T w 4 0) := by
  unfold rnZ
  by_cases c1 : digZ (chrZ (T 0) (T 1 0) (T 4 0)) = 0
  · rw [if_pos c1]; exact ⟨h, seg_0 _ _⟩
  · have d1 := dig_in c1
    have s1 : Seg (T 0) (T 4 0) (T 4 0 + 1) := seg_1 (seg_0 _ _) d1.2.2.1 d1.2.2.2
    rw [if_neg c1]
    by_cases c2 : digZ (chrZ (T 0) (T 1 0) (T 4 0 + 1)) = 0
    · rw [if_pos c2]
      exact ⟨by show T 4 0 + 1 ≤ T 1 0; omega, s1⟩
    · have d2 := dig_in c2
      have s2 : Seg (T 0) (T 4 0) (T 4 0 + 1 + 1) := seg_1 s1 d2.2.2.1 d2.2.2.2
      rw [if_neg c2]
      by_cases c3 : digZ (chrZ (T 0) (T 1 0) (T 4 0 + 1 + 1)) = 0
      · rw [if_pos c3]
        exact ⟨by show T 4 0 + 1 + 1 ≤ T 1 0; omega, s2⟩
      · have d3 := dig_in c3
        rw [if_neg c3]
        exact ⟨by show T 4 0 + 1 + 1 + 1 ≤ T 1 0; omega, seg_1 s2 d3.2.2.1 d3.2.2.2⟩
theorem st_seg (T : Nat → Int → Int) (w sep : Int) (hs : sep ≠ 0) (h : T 4 0 ≤ T 1 0) : stT T w sep 4 0 ≤ T 1 0 ∧ (stV T w sep ≠ 0 → ∃ e : Int, stT T w sep 4 0 = e + 1 ∧ T 4 0 ≤ e ∧ e < T 1 0 ∧ T 0 e = sep ∧ Seg (T 0) (T 4 0) e) := by
  have r := rn_seg T w h
  have r4 := rn_4 T w
  have k0 := rn_k T w 0 (by decide) (by decide)
  have k1 := rn_k T w 1 (by decide) (by decide)
  unfold stT stV
  by_cases c : rnV T = 0
  · rw [if_pos c, if_pos c]
    exact ⟨r.1, fun q => absurd rfl q⟩
  · rw [if_neg c, if_neg c]
    by_cases d : chrZ (rnZ T w 0) (rnZ T w 1 0) (rnZ T w 4 0) = sep
    · rw [if_pos d, if_pos d]
      have g := chr_in (F := rnZ T w 0) (len := rnZ T w 1 0) (i := rnZ T w 4 0) (by rw [d]; exact hs)
      rw [d, k0, k1] at g
      exact ⟨by show rnZ T w 4 0 + 1 ≤ T 1 0; omega, fun _ => ⟨rnZ T w 4 0, rfl, r4.1, g.2.1, g.2.2, r.2⟩⟩
    · rw [if_neg d, if_neg d]
      exact ⟨r.1, fun q => absurd rfl q⟩
theorem nos_in {k : Int} (h : ¬ nosZ k = 0) : k = 97 ∨ k = 100 ∨ k = 102 ∨ k = 109 ∨ k = 114 ∨ k = 119 := by unfold nosZ at h; omega
theorem ro_seg (T : Nat → Int → Int) (q : Int) (h : q ≤ T 1 0) : roT T q 4 0 ≤ T 1 0 ∧ (roV T q ≠ 0 → ∃ e : Int, roT T q 4 0 = e + 1 ∧ q ≤ e ∧ e < T 1 0 ∧ T 0 e = 59 ∧ Seg (T 0) q e) := by
  unfold roT roV
  by_cases c0 : nosZ (chrZ (T 0) (T 1 0) q) = 0
  · rw [if_pos c0, if_pos c0]
    exact ⟨h, fun z => absurd rfl z⟩
  · rw [if_neg c0, if_neg c0]
    have hk := nos_in c0
    have hq := chr_in (F := T 0) (len := T 1 0) (i := q) (by omega)
    have s1 : Seg (T 0) q (q + 1) := seg_1 (seg_0 _ _) (by omega) (by omega)
    have g0 := fun w sep hs => st_seg (ro2 T q) w sep hs (by show q + 1 ≤ T 1 0; omega)
    have fin : ∀ X : Nat → Int → Int, X 0 = T 0 → X 1 = T 1 → q ≤ X 4 0 → X 4 0 ≤ T 1 0 → Seg (T 0) q (X 4 0) → ∀ w : Int, stT X w 59 4 0 ≤ T 1 0 ∧ (stV X w 59 ≠ 0 → ∃ e : Int, stT X w 59 4 0 = e + 1 ∧ q ≤ e ∧ e < T 1 0 ∧ T 0 e = 59 ∧ Seg (T 0) q e) := by
      intro X x0 x1 hq4 hle hs w
      have g := st_seg X w 59 (by decide) (by rw [x1]; exact hle)
      rw [x0, x1] at g
      refine ⟨g.1, fun z => ?_⟩
      obtain ⟨e, e1, e2, e3, e4, e5⟩ := g.2 z
      exact ⟨e, e1, by omega, e3, e4, seg_app hs e5⟩
    have mid : ∀ X : Nat → Int → Int, X 0 = T 0 → X 1 = T 1 → q ≤ X 4 0 → X 4 0 ≤ T 1 0 → Seg (T 0) q (X 4 0) → ∀ w : Int, stT X w 44 4 0 ≤ T 1 0 ∧ (¬ stV X w 44 = 0 → q ≤ stT X w 44 4 0 ∧ Seg (T 0) q (stT X w 44 4 0)) := by
      intro X x0 x1 hq4 hle hs w
      have g := st_seg X w 44 (by decide) (by rw [x1]; exact hle)
      rw [x0, x1] at g
      refine ⟨g.1, fun z => ?_⟩
      obtain ⟨e, e1, e2, e3, e4, e5⟩ := g.2 z
      rw [e1]
      exact ⟨by omega, seg_1 (seg_app hs e5) (by omega) (by omega)⟩
    have k0 : ro2 T q 0 = T 0 := rfl
    have k1 : ro2 T q 1 = T 1 := rfl
    have a1 : q ≤ ro2 T q 4 0 := by show q ≤ q + 1; omega
    have a2 : ro2 T q 4 0 ≤ T 1 0 := by show q + 1 ≤ T 1 0; omega
    have sk : ∀ (X : Nat → Int → Int) (w sep : Int), X 0 = T 0 → X 1 = T 1 → stT X w sep 0 = T 0 ∧ stT X w sep 1 = T 1 := fun X w sep x0 x1 => ⟨(st_k X w sep 0 (by decide) (by decide)).trans x0, (st_k X w sep 1 (by decide) (by decide)).trans x1⟩
    by_cases c1 : nosZ (chrZ (T 0) (T 1 0) q) = 1
    · rw [if_pos c1, if_pos c1]
      exact fin (ro2 T q) k0 k1 a1 a2 s1 0
    · rw [if_neg c1, if_neg c1]
      have m1 := mid (ro2 T q) k0 k1 a1 a2 s1 0
      have x1 := sk (ro2 T q) 0 44 k0 k1
      by_cases c2 : nosZ (chrZ (T 0) (T 1 0) q) = 2
      · rw [if_pos c2, if_pos c2]
        by_cases v1 : stV (ro2 T q) 0 44 = 0
        · rw [if_pos v1, if_pos v1]
          exact ⟨m1.1, fun z => absurd rfl z⟩
        · rw [if_neg v1, if_neg v1]
          have m2 := m1.2 v1
          exact fin _ x1.1 x1.2 m2.1 m1.1 m2.2 1
      · rw [if_neg c2, if_neg c2]
        by_cases v1 : stV (ro2 T q) 0 44 = 0
        · rw [if_pos v1, if_pos v1]
          exact ⟨m1.1, fun z => absurd rfl z⟩
        · rw [if_neg v1, if_neg v1]
          have m2 := m1.2 v1
          have n1 := mid _ x1.1 x1.2 m2.1 m1.1 m2.2 1
          have x2 := sk _ 1 44 x1.1 x1.2
          by_cases v2 : stV (stT (ro2 T q) 0 44) 1 44 = 0
          · rw [if_pos v2, if_pos v2]
            exact ⟨n1.1, fun z => absurd rfl z⟩
          · rw [if_neg v2, if_neg v2]
            have n2 := n1.2 v2
            exact fin _ x2.1 x2.2 n2.1 n1.1 n2.2 2
/-- two texts of the same signs are read alike -/
def TR (S : Int → Prop) (T T' : Nat → Int → Int) : Prop := T 0 = T' 0 ∧ T 1 = T' 1 ∧ T 4 0 = T' 4 0 ∧ ∀ u : Int, S u → T 3 u = T' 3 u
theorem rn_TR {S : Int → Prop} {T T' : Nat → Int → Int} (h : TR S T T') (w : Int) : rnV T = rnV T' ∧ rnZ T w 4 0 = rnZ T' w 4 0 ∧ ∀ u : Int, (S u ∨ (u = w ∧ rnV T ≠ 0)) → rnZ T w 3 u = rnZ T' w 3 u := by
  obtain ⟨h0, h1, h4, h3⟩ := h
  have up : ∀ (y u : Int), (S u ∨ u = w) → upI (T 3) w y u = upI (T' 3) w y u := fun y u hu => by
    unfold upI
    by_cases e : u = w
    · rw [if_pos e, if_pos e]
    · rw [if_neg e, if_neg e]
      rcases hu with a | a
      · exact h3 u a
      · exact absurd a e
  have wk : ∀ u : Int, (S u ∨ (u = w ∧ rnV T ≠ 0)) → (S u ∨ u = w) := fun u hu => hu.elim Or.inl (fun a => Or.inr a.1)
  unfold rnV at wk ⊢
  unfold rnZ
  rw [h0, h1, h4] at wk ⊢
  refine ⟨rfl, ?_⟩
  by_cases c1 : digZ (chrZ (T' 0) (T' 1 0) (T' 4 0)) = 0
  · rw [if_pos c1, if_pos c1, if_pos c1]
    refine ⟨h4, fun u hu => ?_⟩
    rcases hu with a | a
    · exact h3 u a
    · exact absurd rfl a.2
  · rw [if_neg c1, if_neg c1, if_neg c1]
    by_cases c2 : digZ (chrZ (T' 0) (T' 1 0) (T' 4 0 + 1)) = 0
    · rw [if_pos c2, if_pos c2]
      exact ⟨rfl, fun u hu => up _ u (hu.elim Or.inl (fun a => Or.inr a.1))⟩
    · rw [if_neg c2, if_neg c2]
      by_cases c3 : digZ (chrZ (T' 0) (T' 1 0) (T' 4 0 + 1 + 1)) = 0
      · rw [if_pos c3, if_pos c3]
        exact ⟨rfl, fun u hu => up _ u (hu.elim Or.inl (fun a => Or.inr a.1))⟩
      · rw [if_neg c3, if_neg c3]
        exact ⟨rfl, fun u hu => up _ u (hu.elim Or.inl (fun a => Or.inr a.1))⟩
theorem st_TR {S : Int → Prop} {T T' : Nat → Int → Int} (h : TR S T T') (w sep : Int) : stV T w sep = stV T' w sep ∧ stT T w sep 4 0 = stT T' w sep 4 0 ∧ (stV T w sep ≠ 0 → TR (fun u => S u ∨ u = w) (stT T w sep) (stT T' w sep)) := by
  have r := rn_TR h w
  have e0 : rnZ T w 0 = rnZ T' w 0 := (rn_k T w 0 (by decide) (by decide)).trans (h.1.trans (rn_k T' w 0 (by decide) (by decide)).symm)
  have e1 : rnZ T w 1 = rnZ T' w 1 := (rn_k T w 1 (by decide) (by decide)).trans (h.2.1.trans (rn_k T' w 1 (by decide) (by decide)).symm)
  unfold stV stT
  rw [e0, e1, r.2.1, r.1]
  by_cases c : rnV T' = 0
  · rw [if_pos c, if_pos c, if_pos c]
    exact ⟨rfl, r.2.1, fun q => absurd rfl q⟩
  · rw [if_neg c, if_neg c, if_neg c]
    by_cases d : chrZ (rnZ T' w 0) (rnZ T' w 1 0) (rnZ T' w 4 0) = sep
    · rw [if_pos d, if_pos d, if_pos d]
      refine ⟨rfl, rfl, fun _ => ⟨e0, e1, rfl, fun u hu => ?_⟩⟩
      show rnZ T w 3 u = rnZ T' w 3 u
      exact r.2.2 u (hu.elim Or.inl (fun a => Or.inr ⟨a, by rw [r.1]; exact c⟩))
    · rw [if_neg d, if_neg d, if_neg d]
      exact ⟨rfl, r.2.1, fun q => absurd rfl q⟩
theorem ro_TR {T T' : Nat → Int → Int} (h0 : T 0 = T' 0) (h1 : T 1 = T' 1) (q : Int) : roV T q = roV T' q ∧ roT T q 4 0 = roT T' q 4 0 ∧ roT T q 2 0 = roT T' q 2 0 ∧ (roV T q ≠ 0 → ∀ u : Int, 0 ≤ u → u < nosZ (chrZ (T 0) (T 1 0) q) → roT T q 3 u = roT T' q 3 u) := by
  have h2 : roT T q 2 0 = roT T' q 2 0 := by rw [ro_2, ro_2, h0, h1]
  have b : TR (fun _ => False) (ro2 T q) (ro2 T' q) := ⟨h0, h1, rfl, fun _ z => absurd z id⟩
  have f1 := st_TR b 0 59
  have g1 := st_TR b 0 44
  have hn := nos_bd (chrZ (T' 0) (T' 1 0) q)
  refine ⟨?_, ?_, h2, ?_⟩
  · unfold roV
    rw [h0, h1]
    rw [f1.1, g1.1]
    by_cases c0 : nosZ (chrZ (T' 0) (T' 1 0) q) = 0
    · rw [if_pos c0, if_pos c0]
    · rw [if_neg c0, if_neg c0]
      by_cases c1 : nosZ (chrZ (T' 0) (T' 1 0) q) = 1
      · rw [if_pos c1, if_pos c1]
      · rw [if_neg c1, if_neg c1]
        by_cases v1 : stV (ro2 T' q) 0 44 = 0
        · simp only [if_pos v1]
        · have b2 := g1.2.2 (by rw [g1.1]; exact v1)
          have f2 := st_TR b2 1 59
          have g2 := st_TR b2 1 44
          rw [if_neg v1, if_neg v1, if_neg v1, if_neg v1, f2.1, g2.1]
          by_cases c2 : nosZ (chrZ (T' 0) (T' 1 0) q) = 2
          · rw [if_pos c2, if_pos c2]
          · rw [if_neg c2, if_neg c2]
            by_cases v2 : stV (stT (ro2 T' q) 0 44) 1 44 = 0
            · rw [if_pos v2, if_pos v2]
            · have b3 := g2.2.2 (by rw [g2.1]; exact v2)
              rw [if_neg v2, if_neg v2, (st_TR b3 2 59).1]
  · unfold roT
    rw [h0, h1]
    rw [g1.1]
    by_cases c0 : nosZ (chrZ (T' 0) (T' 1 0) q) = 0
    · rw [if_pos c0, if_pos c0]; rfl
    · rw [if_neg c0, if_neg c0]
      by_cases c1 : nosZ (chrZ (T' 0) (T' 1 0) q) = 1
      · rw [if_pos c1, if_pos c1]; exact f1.2.1
      · rw [if_neg c1, if_neg c1]
        by_cases v1 : stV (ro2 T' q) 0 44 = 0
        · rw [if_pos v1, if_pos v1]
          split <;> exact g1.2.1
        · have b2 := g1.2.2 (by rw [g1.1]; exact v1)
          have f2 := st_TR b2 1 59
          have g2 := st_TR b2 1 44
          rw [if_neg v1, if_neg v1, if_neg v1, if_neg v1, g2.1]
          by_cases c2 : nosZ (chrZ (T' 0) (T' 1 0) q) = 2
          · rw [if_pos c2, if_pos c2]; exact f2.2.1
          · rw [if_neg c2, if_neg c2]
            by_cases v2 : stV (stT (ro2 T' q) 0 44) 1 44 = 0
            · rw [if_pos v2, if_pos v2]; exact g2.2.1
            · have b3 := g2.2.2 (by rw [g2.1]; exact v2)
              rw [if_neg v2, if_neg v2]; exact (st_TR b3 2 59).2.1
  · unfold roV roT
    rw [h0, h1]
    rw [g1.1, f1.1]
    intro hv u hu0 hu1
    by_cases c0 : nosZ (chrZ (T' 0) (T' 1 0) q) = 0
    · rw [if_pos c0] at hv; exact absurd rfl hv
    · rw [if_neg c0] at hv
      rw [if_neg c0, if_neg c0]
      by_cases c1 : nosZ (chrZ (T' 0) (T' 1 0) q) = 1
      · rw [if_pos c1] at hv
        rw [if_pos c1, if_pos c1]
        exact (f1.2.2 (by rw [f1.1]; exact hv)).2.2.2 u (Or.inr (by omega))
      · rw [if_neg c1] at hv
        rw [if_neg c1, if_neg c1]
        by_cases v1 : stV (ro2 T' q) 0 44 = 0
        · rw [if_pos v1, if_pos v1] at hv
          exfalso
          split at hv <;> exact hv rfl
        · have b2 := g1.2.2 (by rw [g1.1]; exact v1)
          have f2 := st_TR b2 1 59
          have g2 := st_TR b2 1 44
          rw [if_neg v1, if_neg v1, f2.1, g2.1] at hv
          rw [if_neg v1, if_neg v1, if_neg v1, if_neg v1, g2.1]
          by_cases c2 : nosZ (chrZ (T' 0) (T' 1 0) q) = 2
          · rw [if_pos c2] at hv
            rw [if_pos c2, if_pos c2]
            exact (f2.2.2 (by rw [f2.1]; exact hv)).2.2.2 u (by by_cases e : u = 1; exact Or.inr e; exact Or.inl (Or.inr (by omega)))
          · rw [if_neg c2] at hv
            rw [if_neg c2, if_neg c2]
            by_cases v2 : stV (stT (ro2 T' q) 0 44) 1 44 = 0
            · rw [if_pos v2] at hv; exact absurd rfl hv
            · have b3 := g2.2.2 (by rw [g2.1]; exact v2)
              have f3 := st_TR b3 2 59
              rw [if_neg v2, f3.1] at hv
              rw [if_neg v2, if_neg v2]
              exact (f3.2.2 (by rw [f3.1]; exact hv)).2.2.2 u (by
                by_cases e : u = 2
                · exact Or.inr e
                · by_cases e1 : u = 1
                  · exact Or.inl (Or.inr e1)
                  · exact Or.inl (Or.inl (Or.inr (by omega))))
theorem do_TR (X : Nat → Int → Int) (k : Int) {a b d a' b' d' : Int} (h0 : 0 < nosZ k → a = a') (h1 : 1 < nosZ k → b = b') (h2 : 2 < nosZ k → d = d') : doV X k a b d = doV X k a' b' d' ∧ doG X k a b d = doG X k a' b' d' := by
  unfold doV doG
  by_cases k1 : k = 97
  · subst k1
    have := h0 (by decide)
    subst this
    simp
  · by_cases k2 : k = 100
    · subst k2
      have := h0 (by decide)
      subst this
      simp
    · by_cases k3 : k = 102
      · subst k3
        have e0 := h0 (by decide)
        have e1 := h1 (by decide)
        have e2 := h2 (by decide)
        subst e0 e1 e2
        simp
      · by_cases k4 : k = 109
        · subst k4
          have e0 := h0 (by decide)
          have e1 := h1 (by decide)
          subst e0 e1
          simp
        · by_cases k5 : k = 114
          · subst k5
            have e0 := h0 (by decide)
            have e1 := h1 (by decide)
            subst e0 e1
            simp
          · by_cases k6 : k = 119
            · subst k6
              have e0 := h0 (by decide)
              have e1 := h1 (by decide)
              have e2 := h2 (by decide)
              subst e0 e1 e2
              simp
            · rw [if_neg k1, if_neg k2, if_neg k3, if_neg k4, if_neg k5, if_neg k6, if_neg k1, if_neg k2, if_neg k3, if_neg k4, if_neg k5, if_neg k6, if_neg k1, if_neg k2, if_neg k3, if_neg k4, if_neg k5, if_neg k6, if_neg k1, if_neg k2, if_neg k3, if_neg k4, if_neg k5, if_neg k6]
              exact ⟨rfl, rfl⟩
/-- two states of a reading that differ in nothing that counts -/
def FE (z z' : FF) : Prop := FF.X z = FF.X z' ∧ FF.n z = FF.n z' ∧ FF.s z = FF.s z' ∧ FF.f z = FF.f z' ∧ FF.c z = FF.c z' ∧ FF.T z 0 = FF.T z' 0 ∧ FF.T z 1 = FF.T z' 1
theorem fS_TR {z z' : FF} (h : FE z z') : FE (ffS z) (ffS z') := by
  obtain ⟨T, X, n, s, f, c⟩ := z
  obtain ⟨T', X', n', s', f', c'⟩ := z'
  obtain ⟨eX, en, es, ef, ec, e0, e1⟩ := h
  have eX : X = X' := eX
  have en : n = n' := en
  have es : s = s' := es
  have ef : f = f' := ef
  have ec : c = c' := ec
  have e0 : T 0 = T' 0 := e0
  have e1 : T 1 = T' 1 := e1
  subst eX en es ef ec
  have r := ro_TR e0 e1 s
  have k2 := ro_2 T s
  have i0 : roT T s 0 = roT T' s 0 := (ro_k T s 0 (by decide) (by decide) (by decide)).trans (e0.trans (ro_k T' s 0 (by decide) (by decide) (by decide)).symm)
  have i1 : roT T s 1 = roT T' s 1 := (ro_k T s 1 (by decide) (by decide) (by decide)).trans (e1.trans (ro_k T' s 1 (by decide) (by decide) (by decide)).symm)
  unfold ffS
  by_cases c1 : roV T' s = 0
  · rw [if_pos (show roV T s = 0 from r.1.trans c1), if_pos (show roV T' s = 0 from c1)]
    exact ⟨rfl, rfl, rfl, rfl, by show roT T s 4 0 - s = roT T' s 4 0 - s; rw [r.2.1], i0, i1⟩
  · have c2 : ¬ roV T s = 0 := fun q => c1 (r.1.symm.trans q)
    have r3 := r.2.2.2 c2
    rw [if_neg (show ¬ roV T s = 0 from c2), if_neg (show ¬ roV T' s = 0 from c1)]
    have d := do_TR X (roT T s 2 0) (a := roT T s 3 0) (b := roT T s 3 1) (d := roT T s 3 2) (a' := roT T' s 3 0) (b' := roT T' s 3 1) (d' := roT T' s 3 2) (fun q => r3 0 (by decide) (by rw [k2] at q; omega)) (fun q => r3 1 (by decide) (by rw [k2] at q; omega)) (fun q => r3 2 (by decide) (by rw [k2] at q; omega))
    rw [r.2.2.1] at d
    by_cases v : doV X (roT T' s 2 0) (roT T' s 3 0) (roT T' s 3 1) (roT T' s 3 2) < 0
    · rw [if_pos (show doV X (roT T s 2 0) (roT T s 3 0) (roT T s 3 1) (roT T s 3 2) < 0 by rw [r.2.2.1, d.1]; exact v), if_pos (show doV X (roT T' s 2 0) (roT T' s 3 0) (roT T' s 3 1) (roT T' s 3 2) < 0 from v)]
      exact ⟨by show doG X (roT T s 2 0) (roT T s 3 0) (roT T s 3 1) (roT T s 3 2) = _; rw [r.2.2.1, d.2], rfl, rfl, rfl, by show doV X (roT T s 2 0) (roT T s 3 0) (roT T s 3 1) (roT T s 3 2) = _; rw [r.2.2.1, d.1], i0, i1⟩
    · rw [if_neg (show ¬ doV X (roT T s 2 0) (roT T s 3 0) (roT T s 3 1) (roT T s 3 2) < 0 by rw [r.2.2.1, d.1]; exact v), if_neg (show ¬ doV X (roT T' s 2 0) (roT T' s 3 0) (roT T' s 3 1) (roT T' s 3 2) < 0 from v)]
      exact ⟨by show doG X (roT T s 2 0) (roT T s 3 0) (roT T s 3 1) (roT T s 3 2) = _; rw [r.2.2.1, d.2], rfl, r.2.1, rfl, rfl, i0, i1⟩
theorem ff_TR (G : Nat → Int → Int) {T T' : Nat → Int → Int} (h0 : T 0 = T' 0) (h1 : T 1 = T' 1) : ∀ i : Nat, FE (ffI G T i) (ffI G T' i) := by
  intro i
  induction i with
  | zero => exact ⟨rfl, rfl, rfl, rfl, rfl, h0, h1⟩
  | succ i ih =>
    by_cases c : ffG (ffI G T i)
    · have c' : ffG (ffI G T' i) := by
        obtain ⟨-, -, es, ef, -, -, e1⟩ := ih
        exact ⟨ef ▸ c.1, by have := c.2; rw [es, e1] at this; exact this⟩
      rw [ff_go c, ff_go c']
      exact fS_TR ih
    · have c' : ¬ ffG (ffI G T' i) := fun g => c (by
        obtain ⟨-, -, es, ef, -, -, e1⟩ := ih
        exact ⟨ef ▸ g.1, by have := g.2; rw [← es, ← e1] at this; exact this⟩)
      have a := ff_stop c (Nat.le_succ i)
      have b := ff_stop c' (Nat.le_succ i)
      rw [show i.succ = i + 1 from rfl] at a b
      rw [a, b]
      exact ih
theorem do_neg {B : Int} {X : Nat → Int → Int} (hI : InvG B X) (hB : B + 594 ≤ 100000000) {k a b d : Int} (h : doV X k a b d < 0) : doV X k a b d = -1000001 ∨ doV X k a b d = -1000002 ∨ doV X k a b d = -1000003 := by
  have nl : wlV X a b d < 0 → wlV X a b d = -1000001 := fun q => by
    by_cases c : 0 ≤ a ∧ a < 6 ∧ 0 ≤ b ∧ b < 8 ∧ 0 ≤ d ∧ d < 3
    · have h1 := invG_1 (wl_i hI hB a b d) (8 * a + b) (by omega) (by omega)
      rw [show wlG X a b d = _ from if_pos c] at h1
      rw [show wlV X a b d = _ from if_pos c] at q
      omega
    · exact if_neg c
  have na : waV X a < 0 → waV X a = -1000001 := fun q => by
    by_cases c : 0 ≤ a ∧ a < 6
    · rw [show waV X a = _ from if_pos c] at q
      have := lostAnew_bd X a
      omega
    · exact if_neg c
  have nf : fgV X a b d < 0 → fgV X a b d = -1000001 ∨ fgV X a b d = -1000002 := fun q => by
    by_cases c : 0 ≤ a ∧ a < 6 ∧ 0 ≤ b ∧ b < 3 ∧ 0 ≤ d ∧ d ≤ 999
    · rw [show fgV X a b d = _ from if_pos c] at q ⊢
      have := invG_4 hI (3 * a + b) (by omega) (by omega)
      omega
    · exact Or.inl (if_neg c)
  have nm : mgV X a b < 0 → mgV X a b = -1000001 ∨ mgV X a b = -1000002 := fun q => by
    by_cases c : 0 ≤ a ∧ a < 6 ∧ 0 ≤ b ∧ b < 3
    · rw [show mgV X a b = _ from if_pos c] at q ⊢
      have := invG_4 hI (3 * a + b) (by omega) (by omega)
      omega
    · exact Or.inl (if_neg c)
  have nr : crV X a b < 0 → crV X a b = -1000001 := fun q => by
    by_cases c : 0 ≤ a ∧ a < 6 ∧ 1 ≤ b ∧ b ≤ 200
    · rw [show crV X a b = _ from if_pos c] at q
      have := invG_6 hI a (by omega) (by omega)
      omega
    · exact if_neg c
  have nd : pdV X a 9999 < 0 → pdV X a 9999 = -1000001 ∨ pdV X a 9999 = -1000003 := fun q => by
    by_cases c : 1 ≤ a ∧ a ≤ 99
    · rw [show pdV X a 9999 = _ from if_pos c] at q ⊢
      have := daysLost_bd X a.toNat
      omega
    · exact Or.inl (if_neg c)
  unfold doV at h ⊢
  omega
/-- what a reading to its end says: all signs are read, or where and why it breaks off -/
theorem ff_text {B : Int} {G T : Nat → Int → Int} (hI : InvG B G) (hT : InvT T) (hK : InvK1 T) (hB : B + 35640 ≤ 100000000) : ∀ i : Nat, i ≤ 60 → (FF.f (ffI G T i) = 0 → (0 ≤ FF.s (ffI G T i) ∧ FF.s (ffI G T i) ≤ T 1 0) ∧ FF.n (ffI G T i) = cntC (T 0) 59 (FF.s (ffI G T i)).toNat ∧ cntC (T 0) 46 (FF.s (ffI G T i)).toNat = 0) ∧ (FF.f (ffI G T i) ≠ 0 → (0 ≤ FF.s (ffI G T i) ∧ FF.s (ffI G T i) < T 1 0) ∧ (FF.f (ffI G T i) = 1 → 0 ≤ FF.c (ffI G T i) ∧ FF.s (ffI G T i) + FF.c (ffI G T i) ≤ T 1 0) ∧ (FF.f (ffI G T i) = 2 → FF.c (ffI G T i) = -1000001 ∨ FF.c (ffI G T i) = -1000002 ∨ FF.c (ffI G T i) = -1000003)) := by
  intro i
  induction i with
  | zero => intro _; exact ⟨fun _ => ⟨⟨Int.le_refl 0, hT.1.1⟩, rfl, rfl⟩, fun h => absurd rfl h⟩
  | succ i ih =>
    intro hi
    have hh := ih (by omega)
    have hv := ff_inv hI hT hK hB i (by omega)
    by_cases c : ffG (ffI G T i)
    · rw [ff_go c]
      generalize ffI G T i = z at hh hv c
      obtain ⟨T', X, n, s, f, cc⟩ := z
      have c1 : f = 0 := c.1
      have c2 : s < T' 1 0 := c.2
      have e0 : T' 0 = T 0 := hv.2.2.2.2.2.2.2.2.1
      have e1 : T' 1 = T 1 := hv.2.2.2.2.2.2.2.2.2
      obtain ⟨⟨g1, g2⟩, g3, g4⟩ := hh.1 c1
      have g1 : 0 ≤ s := g1
      have g3 : n = cntC (T 0) 59 s.toNat := g3
      have g4 : cntC (T 0) 46 s.toNat = 0 := g4
      have hx : InvG (B + 594 * (i : Int)) X := hv.1
      have r := ro_seg T' s (by omega)
      have r4 := ro_4 T' s
      rw [e0, e1] at r
      rw [e1] at c2
      unfold ffS
      by_cases v1 : roV T' s = 0
      · rw [if_pos (show roV T' s = 0 from v1)]
        refine ⟨fun q => absurd (show (1 : Int) = 0 from q) (by decide), fun _ => ⟨⟨g1, c2⟩, fun _ => ?_, fun q => absurd (show (1 : Int) = 2 from q) (by decide)⟩⟩
        show 0 ≤ roT T' s 4 0 - s ∧ s + (roT T' s 4 0 - s) ≤ T 1 0
        omega
      · rw [if_neg (show ¬ roV T' s = 0 from v1)]
        by_cases v2 : doV X (roT T' s 2 0) (roT T' s 3 0) (roT T' s 3 1) (roT T' s 3 2) < 0
        · rw [if_pos (show doV X (roT T' s 2 0) (roT T' s 3 0) (roT T' s 3 1) (roT T' s 3 2) < 0 from v2)]
          exact ⟨fun q => absurd (show (2 : Int) = 0 from q) (by decide), fun _ => ⟨⟨g1, c2⟩, fun q => absurd (show (2 : Int) = 1 from q) (by decide), fun _ => do_neg hx (by omega) v2⟩⟩
        · rw [if_neg (show ¬ doV X (roT T' s 2 0) (roT T' s 3 0) (roT T' s 3 1) (roT T' s 3 2) < 0 from v2)]
          obtain ⟨e, a1, a2, a3, a4, a5⟩ := r.2 v1
          refine ⟨fun _ => ?_, fun q => absurd rfl q⟩
          show (0 ≤ roT T' s 4 0 ∧ roT T' s 4 0 ≤ T 1 0) ∧ n + 1 = cntC (T 0) 59 (roT T' s 4 0).toNat ∧ cntC (T 0) 46 (roT T' s 4 0).toNat = 0
          have b1 := cnt_seg 59 (Or.inl rfl) g1 a2 a5
          have b2 := cnt_seg 46 (Or.inr rfl) g1 a2 a5
          rw [a1, show (e + 1).toNat = e.toNat + 1 by omega, cnt_s, cnt_s, show ((e.toNat : Nat) : Int) = e by omega, a4, b1, b2, ← g3, g4]
          refine ⟨by omega, ?_, ?_⟩
          · rw [if_pos rfl]
          · decide
    · have a := ff_stop c (Nat.le_succ i)
      rw [show i.succ = i + 1 from rfl] at a
      rw [a]
      exact hh
theorem ff_end {B : Int} {G T : Nat → Int → Int} (hI : InvG B G) (hT : InvT T) (hK : InvK1 T) (hB : B + 35640 ≤ 100000000) : FF.f (ffI G T 60) = 0 → FF.n (ffI G T 60) = cntC (T 0) 59 (T 1 0).toNat ∧ cntC (T 0) 46 (T 1 0).toNat = 0 := by
  have h := ff_text hI hT hK hB 60 (Nat.le_refl _)
  have hv := ff_inv hI hT hK hB 60 (Nat.le_refl _)
  generalize ffI G T 60 = z at h hv
  intro h0
  obtain ⟨h1, h2, h3⟩ := h.1 h0
  have h5 := hv.2.2.2.2.1 h0
  have e1 : FF.T z 1 = T 1 := hv.2.2.2.2.2.2.2.2.2
  have hl := hT.1
  have h5 : ((60 : Nat) : Int) ≤ FF.s z ∨ FF.T z 1 0 ≤ FF.s z := h5
  rw [e1] at h5
  have es : FF.s z = T 1 0 := by omega
  rw [es] at h2 h3
  exact ⟨h2, h3⟩
