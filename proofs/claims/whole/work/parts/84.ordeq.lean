/-! an order does alike on both sides -/
theorem do_eq {B : Int} {Z : Nat → Int → Int} {G T : Nat → Int → Int} {k : Int} (hI : InvG B G) (hB : B + 594 ≤ 100000000) (hg : gOf (Z 0) = G) (hR : RefI (Z 0)) (hd : G 12 0 ≤ 9999) (hk : Z 10 0 = k) (ok : okZ k = 1) (e0 : Z 11 0 = T 3 0) (e1 : nosZ k ≠ 1 → Z 11 1 = T 3 1) (e2 : nosZ k = 3 → Z 11 2 = T 3 2) :
    (doV G k (T 3 0) (T 3 1) (T 3 2) < 0 ∧ eoV Z = doV G k (T 3 0) (T 3 1) (T 3 2) ∧ doG G k (T 3 0) (T 3 1) (T 3 2) = G) ∨ (0 ≤ doV G k (T 3 0) (T 3 1) (T 3 2) ∧ eoV Z = 0 ∧ gOf (doS Z 0) = doG G k (T 3 0) (T 3 1) (T 3 2) ∧ RefI (doS Z 0)) := by
  have hIz : InvG B (gOf (Z 0)) := by rw [hg]; exact hI
  unfold eoV doS doV doG
  rw [hk, hg]
  rcases ok_let ok with e | e | e | e | e | e
  · subst e
    rw [e0, e1 (by decide), e2 (by decide)]
    simp only [if_neg (show ¬ (119 : Int) = 97 by decide), if_neg (show ¬ (119 : Int) = 100 by decide), if_neg (show ¬ (119 : Int) = 102 by decide), if_neg (show ¬ (119 : Int) = 109 by decide), if_neg (show ¬ (119 : Int) = 114 by decide), if_pos (show (119 : Int) = 119 from rfl), ite_true]
    by_cases h : 0 ≤ T 3 0 ∧ T 3 0 < 6 ∧ 0 ≤ T 3 1 ∧ T 3 1 < 8 ∧ 0 ≤ T 3 2 ∧ T 3 2 < 3
    · right
      refine ⟨nn_wl hI hB h, if_pos h, ?_, ref_wr _ (by omega) (by omega) hR⟩
      rw [gOf_wr _ _ (by omega) (by omega), hg]
      exact (if_pos h).symm
    · left
      have ev : wlV G (T 3 0) (T 3 1) (T 3 2) = -1000001 := if_neg h
      rw [ev]
      exact ⟨by decide, if_neg h, if_neg h⟩
  · subst e
    rw [e0]
    simp only [if_neg (show ¬ (97 : Int) = 119 by decide), if_pos (show (97 : Int) = 97 from rfl), ite_true]
    by_cases h : 0 ≤ T 3 0 ∧ T 3 0 < 6
    · right
      have ev : waV G (T 3 0) = lostAnewZ G (T 3 0) := if_pos h
      rw [ev, if_pos (show 0 ≤ T 3 0 ∧ T 3 0 ≤ 5 by omega)]
      refine ⟨(lostAnew_bd _ _).1, rfl, ?_, ref_wa h hR⟩
      rw [gOf_wa hIz (by omega) h, hg]
      exact (if_pos h).symm
    · left
      have ev : waV G (T 3 0) = -1000001 := if_neg h
      rw [ev, if_neg (show ¬ (0 ≤ T 3 0 ∧ T 3 0 ≤ 5) by omega)]
      exact ⟨by decide, rfl, if_neg h⟩
  · subst e
    rw [e0, e1 (by decide), e2 (by decide)]
    simp only [if_neg (show ¬ (102 : Int) = 119 by decide), if_neg (show ¬ (102 : Int) = 97 by decide), if_neg (show ¬ (102 : Int) = 100 by decide), if_pos (show (102 : Int) = 102 from rfl), ite_true]
    by_cases h : 0 ≤ T 3 0 ∧ T 3 0 < 6 ∧ 0 ≤ T 3 1 ∧ T 3 1 < 3 ∧ 0 ≤ T 3 2 ∧ T 3 2 ≤ 999
    · by_cases h4 : G 5 (3 * T 3 0 + T 3 1) = 0
      · right
        have ev : fgV G (T 3 0) (T 3 1) (T 3 2) = G 4 (3 * T 3 0 + T 3 1) := (if_pos h).trans (if_pos h4)
        rw [ev]
        refine ⟨(invG_4 hI _ (by omega) (by omega)).1, (if_pos h).trans (if_pos h4), ?_, ref_ly _ (len5 (by omega)) (by decide) (by decide) (by decide) (by decide) (ref_ly _ (len4 (by omega)) (by decide) (by decide) (by decide) (by decide) hR)⟩
        rw [gOf_ly _ _ (len5 (by omega)), gOf_ly _ _ (len4 (by omega)), hg, show fgG G (T 3 0) (T 3 1) (T 3 2) = _ from (if_pos h).trans (if_pos h4)]
        exact upG_comm _ 4 5 _ _ _ _ (by decide)
      · left
        have ev : fgV G (T 3 0) (T 3 1) (T 3 2) = -1000002 := (if_pos h).trans (if_neg h4)
        rw [ev]
        exact ⟨by decide, (if_pos h).trans (if_neg h4), (if_pos h).trans (if_neg h4)⟩
    · left
      have ev : fgV G (T 3 0) (T 3 1) (T 3 2) = -1000001 := if_neg h
      rw [ev]
      exact ⟨by decide, if_neg h, if_neg h⟩
  · subst e
    rw [e0, e1 (by decide)]
    simp only [if_neg (show ¬ (109 : Int) = 119 by decide), if_neg (show ¬ (109 : Int) = 97 by decide), if_neg (show ¬ (109 : Int) = 100 by decide), if_neg (show ¬ (109 : Int) = 102 by decide), if_pos (show (109 : Int) = 109 from rfl), ite_true]
    by_cases h : 0 ≤ T 3 0 ∧ T 3 0 < 6 ∧ 0 ≤ T 3 1 ∧ T 3 1 < 3
    · by_cases h4 : G 5 (3 * T 3 0 + T 3 1) = 0
      · left
        have ev : mgV G (T 3 0) (T 3 1) = -1000002 := (if_pos h).trans (if_pos h4)
        rw [ev]
        exact ⟨by decide, (if_pos h).trans (if_pos h4), (if_pos h).trans (if_pos h4)⟩
      · right
        have ev : mgV G (T 3 0) (T 3 1) = G 4 (3 * T 3 0 + T 3 1) := (if_pos h).trans (if_neg h4)
        rw [ev]
        refine ⟨(invG_4 hI _ (by omega) (by omega)).1, (if_pos h).trans (if_neg h4), ?_, ref_ly _ (len5 (by omega)) (by decide) (by decide) (by decide) (by decide) hR⟩
        rw [gOf_ly _ _ (len5 (by omega)), hg]
        exact ((if_pos h).trans (if_neg h4)).symm
    · left
      have ev : mgV G (T 3 0) (T 3 1) = -1000001 := if_neg h
      rw [ev]
      exact ⟨by decide, if_neg h, if_neg h⟩
  · subst e
    rw [e0, e1 (by decide)]
    simp only [if_neg (show ¬ (114 : Int) = 119 by decide), if_neg (show ¬ (114 : Int) = 97 by decide), if_neg (show ¬ (114 : Int) = 100 by decide), if_neg (show ¬ (114 : Int) = 102 by decide), if_neg (show ¬ (114 : Int) = 109 by decide), if_pos (show (114 : Int) = 114 from rfl), ite_true]
    by_cases h : 0 ≤ T 3 0 ∧ T 3 0 < 6 ∧ 1 ≤ T 3 1 ∧ T 3 1 ≤ 200
    · right
      have ev : crV G (T 3 0) (T 3 1) = G 6 (T 3 0) := if_pos h
      have h6 := invG_6 hI (T 3 0) (by omega) (by omega)
      rw [ev]
      refine ⟨by omega, if_pos h, ?_, ref_ly _ (show 0 ≤ T 3 0 ∧ T 3 0 < lenZ 6 from ⟨h.1, h.2.1⟩) (by decide) (by decide) (by decide) (by decide) hR⟩
      rw [gOf_ly _ _ (show 0 ≤ T 3 0 ∧ T 3 0 < lenZ 6 from ⟨h.1, h.2.1⟩), hg]
      exact (if_pos h).symm
    · left
      have ev : crV G (T 3 0) (T 3 1) = -1000001 := if_neg h
      rw [ev]
      exact ⟨by decide, if_neg h, if_neg h⟩
  · subst e
    rw [e0]
    simp only [if_neg (show ¬ (100 : Int) = 119 by decide), if_neg (show ¬ (100 : Int) = 97 by decide), if_neg (show ¬ (100 : Int) = 102 by decide), if_neg (show ¬ (100 : Int) = 109 by decide), if_neg (show ¬ (100 : Int) = 114 by decide), if_pos (show (100 : Int) = 100 from rfl), ite_true]
    by_cases h : 1 ≤ T 3 0 ∧ T 3 0 ≤ 99
    · by_cases h4 : 9999 - T 3 0 < G 12 0
      · left
        have ev : pdV G (T 3 0) 9999 = -1000003 := (if_pos h).trans (if_pos h4)
        rw [ev]
        exact ⟨by decide, (if_pos h).trans (if_pos h4), (if_pos h).trans (if_pos h4)⟩
      · right
        have hes := gOf_es hIz (T 3 0).toNat (by omega) (by rw [hg]; omega)
        rw [hg] at hes
        have ev : pdV G (T 3 0) 9999 = daysLostZ G (T 3 0).toNat := (if_pos h).trans (if_neg h4)
        rw [ev]
        refine ⟨(daysLost_bd _ _).1, (if_pos h).trans (if_neg h4), ?_, ref_es hR _⟩
        rw [hes.1]
        exact ((if_pos h).trans (if_neg h4)).symm
    · left
      have ev : pdV G (T 3 0) 9999 = -1000001 := if_neg h
      rw [ev]
      exact ⟨by decide, if_neg h, if_neg h⟩
/-! all orders -/
def RT (q : FF) (X : Nat → Int → Int) : Prop := gOf (X 0) = FF.X q ∧ RefI (X 0) ∧ X 5 = FF.T q 0 ∧ X 6 0 = FF.T q 1 0 ∧ X 12 0 = FF.f q ∧ (FF.f q = 0 → X 7 0 = FF.s q) ∧ (FF.f q ≠ 0 → X 8 0 = FF.s q ∧ X 13 0 = FF.c q)
theorem da_eq {B : Int} {G T X : Nat → Int → Int} (hI : InvG B G) (hT : InvT T) (hK : InvK1 T) (hB : B + 35640 ≤ 100000000) (hd : G 12 0 ≤ 9999) (x0 : gOf (X 0) = G) (xr : RefI (X 0)) (x5 : X 5 = T 0) (x6 : X 6 0 = T 1 0) (x12 : X 12 0 = 0) (x7 : X 7 0 = 0) : ∀ i : Nat, i ≤ 60 → RT (ffI G T i) (daI X i) ∧ daC X i = FF.n (ffI G T i) ∧ FF.X (ffI G T i) 12 0 ≤ 9999 ∧ FF.X (ffI G T i) 10 = G 10 := by
  intro i
  induction i with
  | zero =>
    intro _
    exact ⟨⟨x0, xr, x5, x6, x12, fun _ => x7, fun q => absurd rfl q⟩, rfl, hd, rfl⟩
  | succ i ih =>
    intro hi
    obtain ⟨⟨r0, r1, r2, r3, r4, r5, r6⟩, rn, rd, r10⟩ := ih (by omega)
    obtain ⟨i1, i2, i3, i4, i5, i6, i7, i8, i9, i10⟩ := ff_inv hI hT hK hB i (by omega)
    by_cases g : ffG (ffI G T i)
    · have gd : daI X i 12 0 = 0 ∧ daI X i 7 0 < daI X i 6 0 := by
        refine ⟨by rw [r4]; exact g.1, ?_⟩
        rw [r5 g.1, r3]
        exact g.2
      have hg := da_go (Z := toS (daI X i)) rfl gd
      have hs := r5 g.1
      have ho := order_eq r2 r3
      have z0 : toS (daI X i) 0 = daI X i 0 := to_g (daI X i)
      have z5 : toS (daI X i) 5 = daI X i 5 := to_k _ 5 (by decide) (by decide) (by decide) (by decide) (by decide)
      have z6 : toS (daI X i) 6 = daI X i 6 := to_k _ 6 (by decide) (by decide) (by decide) (by decide) (by decide)
      have z12 : toS (daI X i) 12 = daI X i 12 := to_k _ 12 (by decide) (by decide) (by decide) (by decide) (by decide)
      have z8 := to_8 (daI X i)
      have z10 := to_10 (daI X i)
      have hc : chrZ (daI X i 5) (daI X i 6 0) (daI X i 7 0) = roT (FF.T (ffI G T i)) (FF.s (ffI G T i)) 2 0 := by rw [ro_2, r2, r3, hs]
      rw [hs] at ho
      rw [hg.1, hg.2]
      have k0 := ro_k (FF.T (ffI G T i)) (FF.s (ffI G T i)) 0 (by decide) (by decide) (by decide)
      have k1 := ro_k (FF.T (ffI G T i)) (FF.s (ffI G T i)) 1 (by decide) (by decide) (by decide)
      rw [hs] at hc z10 z8
      rcases ho with ⟨h7, ⟨hv, h9⟩ | ⟨hv, h9, hok, n0, n1, n2⟩⟩
      · have eQ : ffI G T (i + 1) = (roT (FF.T (ffI G T i)) (FF.s (ffI G T i)), FF.X (ffI G T i), FF.n (ffI G T i), FF.s (ffI G T i), 1, roT (FF.T (ffI G T i)) (FF.s (ffI G T i)) 4 0 - FF.s (ffI G T i)) := (ff_go g).trans (if_pos hv)
        have eS : stpS (toS (daI X i)) = upG (upG (toS (daI X i)) 12 0 1) 13 0 (toS (daI X i) 7 0 - toS (daI X i) 8 0) := if_pos h9
        have eC : cnT (toS (daI X i)) = 0 := if_pos h9
        rw [eQ, eS, eC]
        refine ⟨⟨?_, ?_, ?_, ?_, rfl, fun q => absurd (show (1 : Int) = 0 from q) (by decide), fun _ => ⟨?_, ?_⟩⟩, by rw [rn]; exact Int.add_zero _, rd, r10⟩
        · show gOf (toS (daI X i) 0) = _; rw [z0]; exact r0
        · show RefI (toS (daI X i) 0); rw [z0]; exact r1
        · show toS (daI X i) 5 = _; rw [z5]; exact r2.trans k0.symm
        · show toS (daI X i) 6 0 = roT _ _ 1 0; rw [z6, k1]; exact r3
        · exact z8
        · show toS (daI X i) 7 0 - toS (daI X i) 8 0 = _; rw [h7, z8]
      · have hv0 : ¬ roV (FF.T (ffI G T i)) (FF.s (ffI G T i)) = 0 := by omega
        have h90 : ¬ toS (daI X i) 9 0 = 0 := by omega
        rw [hc] at hok
        rw [hc] at n1 n2
        have hdo := do_eq (T := roT (FF.T (ffI G T i)) (FF.s (ffI G T i))) i1 (by omega) (show gOf (toS (daI X i) 0) = FF.X (ffI G T i) by rw [z0]; exact r0) (by rw [z0]; exact r1) rd (z10.trans hc) hok n0 n1 n2
        have hds := do_s rd (roT (FF.T (ffI G T i)) (FF.s (ffI G T i)) 2 0) (roT (FF.T (ffI G T i)) (FF.s (ffI G T i)) 3 0) (roT (FF.T (ffI G T i)) (FF.s (ffI G T i)) 3 1) (roT (FF.T (ffI G T i)) (FF.s (ffI G T i)) 3 2)
        rcases hdo with ⟨d1, d2, d3⟩ | ⟨d1, d2, d3, d4⟩
        · have eQ := (ff_go g).trans ((if_neg hv0).trans (if_pos d1))
          have eS : stpS (toS (daI X i)) = upG (upG (toS (daI X i)) 12 0 2) 13 0 (eoV (toS (daI X i))) := (if_neg h90).trans (if_pos (by rw [d2]; exact d1))
          have eC : cnT (toS (daI X i)) = 0 := (if_neg h90).trans (if_pos (by rw [d2]; exact d1))
          rw [eQ, eS, eC]
          refine ⟨⟨?_, ?_, ?_, ?_, rfl, fun q => absurd (show (2 : Int) = 0 from q) (by decide), fun _ => ⟨?_, ?_⟩⟩, by rw [rn]; exact Int.add_zero _, hds.1, hds.2.trans r10⟩
          · show gOf (toS (daI X i) 0) = doG _ _ _ _ _; rw [z0, d3]; exact r0
          · show RefI (toS (daI X i) 0); rw [z0]; exact r1
          · show toS (daI X i) 5 = _; rw [z5]; exact r2.trans k0.symm
          · show toS (daI X i) 6 0 = roT _ _ 1 0; rw [z6, k1]; exact r3
          · exact z8
          · exact d2
        · have nd1 : ¬ doV (FF.X (ffI G T i)) (roT (FF.T (ffI G T i)) (FF.s (ffI G T i)) 2 0) (roT (FF.T (ffI G T i)) (FF.s (ffI G T i)) 3 0) (roT (FF.T (ffI G T i)) (FF.s (ffI G T i)) 3 1) (roT (FF.T (ffI G T i)) (FF.s (ffI G T i)) 3 2) < 0 := by omega
          have eQ := (ff_go g).trans ((if_neg hv0).trans (if_neg nd1))
          have eS : stpS (toS (daI X i)) = doS (toS (daI X i)) := (if_neg h90).trans (if_neg (by omega))
          have eC : cnT (toS (daI X i)) = 1 := (if_neg h90).trans (if_neg (by omega))
          rw [eQ, eS, eC]
          refine ⟨⟨d3, d4, ?_, ?_, ?_, fun _ => ?_, fun q => absurd rfl q⟩, by rw [rn], hds.1, hds.2.trans r10⟩
          · rw [do_k _ 5 (by decide), z5]; exact r2.trans k0.symm
          · rw [do_k _ 6 (by decide), z6]; show daI X i 6 0 = roT _ _ 1 0; rw [k1]; exact r3
          · rw [do_k _ 12 (by decide), z12]; show daI X i 12 0 = 0; rw [r4]; exact g.1
          · rw [do_k _ 7 (by decide)]; exact h7
    · have gd : ¬ (daI X i 12 0 = 0 ∧ daI X i 7 0 < daI X i 6 0) := by
        intro w
        have h0 : FF.f (ffI G T i) = 0 := by rw [← r4]; exact w.1
        have w2 := w.2
        rw [r5 h0, r3] at w2
        exact g ⟨h0, w2⟩
      have a1 := da_stop2 gd (Nat.le_succ i)
      have a2 := ff_stop g (Nat.le_succ i)
      rw [show i.succ = i + 1 from rfl] at a1 a2
      rw [a1.1, a1.2, a2]
      exact ⟨⟨r0, r1, r2, r3, r4, r5, r6⟩, rn, rd, r10⟩
