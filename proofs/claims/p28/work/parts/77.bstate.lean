/-! the class's state in one word; what every state keeps, k changes at most made -/
abbrev SS : Type := (Nat → Nat) × (Nat → Nat → Nat) × (Nat → Int → Int) × (Nat → Int → Int) × (Nat → Nat → Int → Int)
abbrev SS.F (q : SS) : Nat → Int → Int := q.2.2.1
abbrev SS.T (q : SS) : Nat → Int → Int := q.2.2.2.1
abbrev SS.H (q : SS) : Nat → Nat → Int → Int := q.2.2.2.2
abbrev SS.G (q : SS) : Nat → Int → Int := q.2.2.2.2 0
abbrev SS.n (q : SS) : Int := q.2.2.1 4 0
abbrev wS (xo xh t : Nat) (ta : Nat → Nat) (cI cC cH : ClassId) (q : SS) : va_W := wX xo xh t ta cI cC cH q.1 q.2.1 q.2.2.1 q.2.2.2.1 q.2.2.2.2
abbrev tyS (cI cC cH : ClassId) : List (ClassId × FieldType) := [(cI, .int), (cC, .char), (cH, .object RX0)]
def Gk (k : Nat) (G : Nat → Int → Int) : Prop := InvG (1 + 36000 * (k : Int)) G ∧ Sm k G
theorem Gk_mono {k m : Nat} {G : Nat → Int → Int} (g : Gk k G) (h : k ≤ m) (hm : m ≤ 600) : Gk m G :=
  ⟨invG_mono g.1 (by omega) (by omega), g.2.1, by have := g.2.2; omega⟩
theorem Gk_mk {k : Nat} {G' : Nat → Int → Int} (hi : InvG (1 + 36000 * (k : Int) + 594) G') (hs : Sm (k + 1) G') (hk : k < 600) : Gk (k + 1) G' := ⟨invG_mono hi (by omega) (by omega), hs⟩
theorem Gk_mk0 {k : Nat} {G' : Nat → Int → Int} (hi : InvG (1 + 36000 * (k : Int)) G') (hs : Sm (k + 1) G') (hk : k < 600) : Gk (k + 1) G' := ⟨invG_mono hi (by omega) (by omega), hs⟩
def CR (k : Nat) (q : SS) : Prop := Gk k (SS.G q) ∧ (0 ≤ SS.n q ∧ SS.n q ≤ 4) ∧ (∀ i : Nat, (i : Int) < SS.n q → Gk k (SS.H q (3 + i))) ∧ InvT (SS.T q) ∧ InvK1 (SS.T q)
/-- what is refused leaves all; else the state before stands in the history -/
def Aft (q q' : SS) : Prop := (SS.n q' = SS.n q ∧ (SS.n q = 4 ∨ SS.G q' = SS.G q)) ∨ (SS.n q' = SS.n q + 1 ∧ SS.n q < 4 ∧ SS.H q' (3 + (SS.n q).toNat) = SS.G q)
/-- only the trial grid, the text and what was found in it may differ -/
def Sme (q q' : SS) : Prop := SS.G q' = SS.G q ∧ SS.n q' = SS.n q ∧ ∀ i : Nat, SS.H q' (3 + i) = SS.H q (3 + i)
theorem Sme_rfl (q : SS) : Sme q q := ⟨rfl, rfl, fun _ => rfl⟩
theorem Sme_tr {a b c : SS} (h : Sme a b) (g : Sme b c) : Sme a c := ⟨g.1.trans h.1, g.2.1.trans h.2.1, fun i => (g.2.2 i).trans (h.2.2 i)⟩
theorem Aft_l {a b c : SS} (h : Sme a b) (g : Aft b c) : Aft a c := by
  obtain ⟨h1, h2, h3⟩ := h
  unfold Aft at g ⊢
  rw [h1, h2] at g
  exact g
theorem Aft_r {a b c : SS} (g : Aft a b) (h : Sme b c) : Aft a c := by
  obtain ⟨h1, h2, h3⟩ := h
  unfold Aft at g ⊢
  rw [h1, h2, h3]
  exact g
theorem CR_sme {k : Nat} {q q' : SS} (h : CR k q) (s : Sme q q') (hT : InvT (SS.T q')) (hK : InvK1 (SS.T q')) : CR k q' := by
  obtain ⟨s1, s2, s3⟩ := s
  refine ⟨by rw [s1]; exact h.1, by rw [s2]; exact h.2.1, fun i hi => ?_, hT, hK⟩
  rw [s3]
  exact h.2.2.1 i (by rw [← s2]; exact hi)
theorem CR_mono {k m : Nat} {q : SS} (h : CR k q) (hk : k ≤ m) (hm : m ≤ 600) : CR m q := ⟨Gk_mono h.1 hk hm, h.2.1, fun i hi => Gk_mono (h.2.2.1 i hi) hk hm, h.2.2.2⟩
/-- a change that answers V and makes G' -/
def Chg (k : Nat) (q q' : SS) (V : Int) (G' : Nat → Int → Int) : Prop := CR (k + 1) q' ∧ Aft q q' ∧ SS.G q' = G' ∧ SS.n q' = (if V < 0 then SS.n q else if SS.n q < 4 then SS.n q + 1 else 4)
theorem chg_mk {k : Nat} {q : SS} {V : Int} {G' : Nat → Int → Int} {F' T' : Nat → Int → Int} {Y : Nat → Nat → Int → Int} (ga : Nat → Nat) (gd : Nat → Nat → Nat) (h : CR k q) (hk : k < 500) (hV : V < 0 → G' = SS.G q) (hg : Gk (k + 1) G') (y0 : Y 0 = G') (y1 : Y 1 = SS.G q) (y3 : ∀ i : Nat, Y (3 + i) = SS.H q (3 + i)) (hF : F' 4 0 = SS.n q) (hT : InvT T') (hK : InvK1 T') : Chg k q (ga, gd, rcxF V F', T', rcxP V (SS.n q) Y) V G' := by
  obtain ⟨h1, h2, h3, -, -⟩ := h
  by_cases v : V < 0
  · have e : rcxP V (SS.n q) Y = Y := rcx_bad _ v
    have eF : rcxF V F' = F' := if_pos v
    refine ⟨⟨?_, ?_, fun i hi => ?_, hT, hK⟩, Or.inl ⟨?_, Or.inr ?_⟩, ?_, ?_⟩
    · show Gk (k + 1) (rcxP V (SS.n q) Y 0); rw [e, y0]; exact hg
    · show 0 ≤ rcxF V F' 4 0 ∧ rcxF V F' 4 0 ≤ 4; rw [eF, hF]; exact h2
    · have hi : (i : Int) < rcxF V F' 4 0 := hi
      rw [eF, hF] at hi
      show Gk (k + 1) (rcxP V (SS.n q) Y (3 + i)); rw [e, y3]; exact Gk_mono (h3 i hi) (by omega) (by omega)
    · show rcxF V F' 4 0 = SS.n q; rw [eF, hF]
    · show rcxP V (SS.n q) Y 0 = SS.G q; rw [e, y0]; exact hV v
    · show rcxP V (SS.n q) Y 0 = G'; rw [e, y0]
    · show rcxF V F' 4 0 = _; rw [eF, hF, if_pos v]
  · by_cases n4 : SS.n q < 4
    · have e : rcxP V (SS.n q) Y = swp 1 (3 + (SS.n q).toNat) Y := rcx_lt Y v n4
      have eF : rcxF V F' 4 0 = SS.n q + 1 := by
        unfold rcxF; rw [if_neg v, if_pos (by omega)]
        show F' 4 0 + 1 = _; rw [hF]
      refine ⟨⟨?_, ?_, fun i hi => ?_, hT, hK⟩, Or.inr ⟨eF, n4, ?_⟩, ?_, ?_⟩
      · show Gk (k + 1) (rcxP V (SS.n q) Y 0); rw [e, swp_n Y (by omega) (by omega), y0]; exact hg
      · show 0 ≤ rcxF V F' 4 0 ∧ rcxF V F' 4 0 ≤ 4; rw [eF]; omega
      · have hi : (i : Int) < rcxF V F' 4 0 := hi
        rw [eF] at hi
        show Gk (k + 1) (rcxP V (SS.n q) Y (3 + i)); rw [e]
        by_cases hc : (i : Int) = SS.n q
        · have e5 : 3 + i = 3 + (SS.n q).toNat := by omega
          rw [e5, swp_j Y (by omega), y1]; exact Gk_mono h1 (by omega) (by omega)
        · rw [swp_n Y (by omega) (by omega), y3]; exact Gk_mono (h3 i (by omega)) (by omega) (by omega)
      · show rcxP V (SS.n q) Y (3 + (SS.n q).toNat) = SS.G q; rw [e, swp_j Y (by omega), y1]
      · show rcxP V (SS.n q) Y 0 = G'; rw [e, swp_n Y (by omega) (by omega), y0]
      · show rcxF V F' 4 0 = _; rw [eF, if_neg v, if_pos n4]
    · have e : rcxP V (SS.n q) Y = swp 1 6 (rotS Y) := rcx_full Y v n4
      have eF : rcxF V F' 4 0 = 4 := by unfold rcxF; rw [if_neg v, if_neg (by omega)]; rfl
      have n5 : SS.n q = 4 := by omega
      refine ⟨⟨?_, ?_, fun i hi => ?_, hT, hK⟩, Or.inl ⟨?_, Or.inl n5⟩, ?_, ?_⟩
      · show Gk (k + 1) (rcxP V (SS.n q) Y 0); rw [e]; show Gk (k + 1) (Y 0); rw [y0]; exact hg
      · show 0 ≤ rcxF V F' 4 0 ∧ rcxF V F' 4 0 ≤ 4; rw [eF]; omega
      · have hi : (i : Int) < rcxF V F' 4 0 := hi
        rw [eF] at hi
        show Gk (k + 1) (rcxP V (SS.n q) Y (3 + i)); rw [e]
        by_cases hc : i = 3
        · subst hc
          show Gk (k + 1) (Y 1)
          rw [y1]; exact Gk_mono h1 (by omega) (by omega)
        · have e5 : swp 1 6 (rotS Y) (3 + i) = Y (3 + (i + 1)) := by
            rcases (show i = 0 ∨ i = 1 ∨ i = 2 by omega) with rfl | rfl | rfl <;> rfl
          rw [e5, y3]; exact Gk_mono (h3 (i + 1) (by omega)) (by omega) (by omega)
      · show rcxF V F' 4 0 = SS.n q; rw [eF, n5]
      · show rcxP V (SS.n q) Y 0 = G'; rw [e]; exact y0
      · show rcxF V F' 4 0 = _; rw [eF, if_neg v, if_neg n4]
theorem und_mk {k : Nat} {q : SS} (ga : Nat → Nat) (gd : Nat → Nat → Nat) (h : CR k q) (hn : 1 ≤ SS.n q) : CR k (ga, gd, upG (SS.F q) 4 0 (SS.n q - 1), SS.T q, swp 0 (3 + (SS.n q - 1).toNat) (SS.H q)) := by
  obtain ⟨h1, h2, h3, h4, h5⟩ := h
  have eF : upG (SS.F q) 4 0 (SS.n q - 1) 4 0 = SS.n q - 1 := rfl
  refine ⟨?_, ?_, fun i hi => ?_, h4, h5⟩
  · show Gk k (SS.H q (3 + (SS.n q - 1).toNat)); exact h3 _ (by omega)
  · show 0 ≤ SS.n q - 1 ∧ SS.n q - 1 ≤ 4; omega
  · have hi : (i : Int) < SS.n q - 1 := hi
    show Gk k (swp 0 (3 + (SS.n q - 1).toNat) (SS.H q) (3 + i))
    rw [swp_n (SS.H q) (by omega) (by omega)]
    exact h3 i (by omega)
theorem ups_y (H : Nat → Nat → Int → Int) (X G' : Nat → Int → Int) (i : Nat) : upS (upS H 1 X) 0 G' (3 + i) = H (3 + i) := by
  unfold upS; rw [if_neg (by omega), if_neg (by omega)]
theorem ng_wl {B : Int} {G : Nat → Int → Int} (hI : InvG B G) (hB : B + 594 ≤ 100000000) {r c v : Int} (h : wlV G r c v < 0) : wlG G r c v = G := by
  unfold wlG
  split
  · rename_i h0
    have h1 := invG_1 (wl_i hI hB r c v) (8 * r + c) (by omega) (by omega)
    rw [show wlG G r c v = _ from if_pos h0] at h1
    rw [show wlV G r c v = _ from if_pos h0] at h
    omega
  · rfl
theorem ng_ww {G : Nat → Int → Int} {r w : Int} (h : wwV G r w < 0) : wwG G r w = G := by
  unfold wwG
  split
  · rename_i h0
    rw [show wwV G r w = _ from if_pos h0] at h
    have := toldWord_bd G r
    omega
  · rfl
theorem ng_wa {G : Nat → Int → Int} {r : Int} (h : waV G r < 0) : waG G r = G := by
  unfold waG
  split
  · rename_i h0
    rw [show waV G r = _ from if_pos h0] at h
    have := lostAnew_bd G r
    omega
  · rfl
theorem ng_ac {G : Nat → Int → Int} {r c : Int} (h : acV G r c < 0) : acG G r c = G := by
  unfold acG
  split
  · rename_i h0
    rw [show acV G r c = _ from if_pos h0] at h
    have := told_bd G r c
    omega
  · rfl
theorem ng_fg {B : Int} {G : Nat → Int → Int} (hI : InvG B G) {r g v : Int} (h : fgV G r g v < 0) : fgG G r g v = G := by
  unfold fgG
  split
  · rename_i h0
    rw [show fgV G r g v = _ from if_pos h0] at h
    split
    · rename_i h1
      rw [if_pos h1] at h
      have := invG_4 hI (3 * r + g) (by omega) (by omega)
      omega
    · rfl
  · rfl
theorem ng_mg {B : Int} {G : Nat → Int → Int} (hI : InvG B G) {r g : Int} (h : mgV G r g < 0) : mgG G r g = G := by
  unfold mgG
  split
  · rename_i h0
    rw [show mgV G r g = _ from if_pos h0] at h
    split
    · rfl
    · rename_i h1
      rw [if_neg h1] at h
      have := invG_4 hI (3 * r + g) (by omega) (by omega)
      omega
  · rfl
theorem ng_cr {B : Int} {G : Nat → Int → Int} (hI : InvG B G) {r v : Int} (h : crV G r v < 0) : crG G r v = G := by
  unfold crG
  split
  · rename_i h0
    rw [show crV G r v = _ from if_pos h0] at h
    have := invG_6 hI r (by omega) (by omega)
    omega
  · rfl
theorem ng_pd {G : Nat → Int → Int} {n last : Int} (h : pdV G n last < 0) : pdG G n last = G := by
  unfold pdG
  split
  · rename_i h0
    rw [show pdV G n last = _ from if_pos h0] at h
    split
    · rfl
    · rename_i h1
      rw [if_neg h1] at h
      have := daysLost_bd G n.toNat
      omega
  · rfl
theorem ng_cs {B : Int} {G : Nat → Int → Int} (hI : InvG B G) {w v : Int} (h : csV G w v < 0) : csG G w v = G := by
  unfold csG
  split
  · rename_i h0
    rw [show csV G w v = _ from if_pos h0] at h
    have := invG_11 hI w (by omega) (by omega)
    omega
  · rfl
set_option maxHeartbeats 4000000 in
theorem sc_write (l : Launch) (D : va_G) (xo xh t : Nat) (ta : Nat → Nat) (cI cC cH : ClassId) {k : Nat} {q : SS} (h : CR k q) (hk : k < 500) (r c2 v : Int) (h_r : -2147483648 ≤ r ∧ r < 2147483648) (h_c2 : -2147483648 ≤ c2 ∧ c2 < 2147483648) (h_v : -2147483648 ≤ v ∧ v < 2147483648) : ∃ q' : SS, MW l D yX2_write (wsY yX2_write cX2_write 4 (some .int)) { frames := 3, cells := 0, slots := 0, locals := 67 } (tyS cI cC cH) [.ref xo, .int (iI r), .int (iI c2), .int (iI v)] (wS xo xh t ta cI cC cH q) (wS xo xh t ta cI cC cH q') (some (.int (iI (wlV (SS.G q) r c2 v)))) ∧ Chg k q q' (wlV (SS.G q) r c2 v) (wlG (SS.G q) r c2 v) ∧ SS.T q' = SS.T q :=
  ⟨(rcxP (wlV (SS.G q) r c2 v) (SS.n q) q.1, rcxP (wlV (SS.G q) r c2 v) (SS.n q) q.2.1, rcxF (wlV (SS.G q) r c2 v) (SS.F q), SS.T q, rcxP (wlV (SS.G q) r c2 v) (SS.n q) (upS (upS (SS.H q) 1 (SS.G q)) 0 (wlG (SS.G q) r c2 v))), m_X2_write l D xo xh t ta cI cC cH q.1 q.2.1 q.2.2.1 q.2.2.2.1 q.2.2.2.2 r c2 v h.1.1 (by omega) h.2.1 h_r h_c2 h_v, chg_mk _ _ h (by omega) (fun v => ng_wl h.1.1 (by omega) v) (Gk_mk (wl_i h.1.1 (by omega) r c2 v) (wl_s h.1.2 r c2 v) (by omega)) rfl rfl (fun i => ups_y _ _ _ i) rfl h.2.2.2.1 h.2.2.2.2, rfl⟩
set_option maxHeartbeats 4000000 in
theorem sc_fill (l : Launch) (D : va_G) (xo xh t : Nat) (ta : Nat → Nat) (cI cC cH : ClassId) {k : Nat} {q : SS} (h : CR k q) (hk : k < 500) (r w : Int) (h_r : -2147483648 ≤ r ∧ r < 2147483648) (h_w : -2147483648 ≤ w ∧ w < 2147483648) : ∃ q' : SS, MW l D yX2_fill (wsY yX2_fill cX2_fill 3 (some .int)) { frames := 4, cells := 0, slots := 0, locals := 97 } (tyS cI cC cH) [.ref xo, .int (iI r), .int (iI w)] (wS xo xh t ta cI cC cH q) (wS xo xh t ta cI cC cH q') (some (.int (iI (wwV (SS.G q) r w)))) ∧ Chg k q q' (wwV (SS.G q) r w) (wwG (SS.G q) r w) ∧ SS.T q' = SS.T q :=
  ⟨(rcxP (wwV (SS.G q) r w) (SS.n q) q.1, rcxP (wwV (SS.G q) r w) (SS.n q) q.2.1, rcxF (wwV (SS.G q) r w) (SS.F q), SS.T q, rcxP (wwV (SS.G q) r w) (SS.n q) (upS (upS (SS.H q) 1 (SS.G q)) 0 (wwG (SS.G q) r w))), m_X2_fill l D xo xh t ta cI cC cH q.1 q.2.1 q.2.2.1 q.2.2.2.1 q.2.2.2.2 r w h.1.1 (by omega) h.2.1 h_r h_w, chg_mk _ _ h (by omega) (fun v => ng_ww v) (Gk_mk (ww_i h.1.1 (by omega) r w) (ww_s h.1.2 r w) (by omega)) rfl rfl (fun i => ups_y _ _ _ i) rfl h.2.2.2.1 h.2.2.2.2, rfl⟩
set_option maxHeartbeats 4000000 in
theorem sc_anew (l : Launch) (D : va_G) (xo xh t : Nat) (ta : Nat → Nat) (cI cC cH : ClassId) {k : Nat} {q : SS} (h : CR k q) (hk : k < 500) (r : Int) (h_r : -2147483648 ≤ r ∧ r < 2147483648) : ∃ q' : SS, MW l D yX2_anew (wsY yX2_anew cX2_anew 2 (some .int)) { frames := 3, cells := 0, slots := 0, locals := 74 } (tyS cI cC cH) [.ref xo, .int (iI r)] (wS xo xh t ta cI cC cH q) (wS xo xh t ta cI cC cH q') (some (.int (iI (waV (SS.G q) r)))) ∧ Chg k q q' (waV (SS.G q) r) (waG (SS.G q) r) ∧ SS.T q' = SS.T q :=
  ⟨(rcxP (waV (SS.G q) r) (SS.n q) q.1, rcxP (waV (SS.G q) r) (SS.n q) q.2.1, rcxF (waV (SS.G q) r) (SS.F q), SS.T q, rcxP (waV (SS.G q) r) (SS.n q) (upS (upS (SS.H q) 1 (SS.G q)) 0 (waG (SS.G q) r))), m_X2_anew l D xo xh t ta cI cC cH q.1 q.2.1 q.2.2.1 q.2.2.2.1 q.2.2.2.2 r h.1.1 (by omega) h.2.1 h_r, chg_mk _ _ h (by omega) (fun v => ng_wa v) (Gk_mk (wa_i h.1.1 (by omega) r) (wa_s h.1.2 r) (by omega)) rfl rfl (fun i => ups_y _ _ _ i) rfl h.2.2.2.1 h.2.2.2.2, rfl⟩
set_option maxHeartbeats 4000000 in
theorem sc_ask (l : Launch) (D : va_G) (xo xh t : Nat) (ta : Nat → Nat) (cI cC cH : ClassId) {k : Nat} {q : SS} (h : CR k q) (hk : k < 500) (r c2 : Int) (h_r : -2147483648 ≤ r ∧ r < 2147483648) (h_c2 : -2147483648 ≤ c2 ∧ c2 < 2147483648) : ∃ q' : SS, MW l D yX2_ask (wsY yX2_ask cX2_ask 3 (some .int)) { frames := 3, cells := 0, slots := 0, locals := 71 } (tyS cI cC cH) [.ref xo, .int (iI r), .int (iI c2)] (wS xo xh t ta cI cC cH q) (wS xo xh t ta cI cC cH q') (some (.int (iI (acV (SS.G q) r c2)))) ∧ Chg k q q' (acV (SS.G q) r c2) (acG (SS.G q) r c2) ∧ SS.T q' = SS.T q :=
  ⟨(rcxP (acV (SS.G q) r c2) (SS.n q) q.1, rcxP (acV (SS.G q) r c2) (SS.n q) q.2.1, rcxF (acV (SS.G q) r c2) (SS.F q), SS.T q, rcxP (acV (SS.G q) r c2) (SS.n q) (upS (upS (SS.H q) 1 (SS.G q)) 0 (acG (SS.G q) r c2))), m_X2_ask l D xo xh t ta cI cC cH q.1 q.2.1 q.2.2.1 q.2.2.2.1 q.2.2.2.2 r c2 h.1.1 (by omega) h.2.1 h_r h_c2, chg_mk _ _ h (by omega) (fun v => ng_ac v) (Gk_mk (ac_i h.1.1 (by omega) r c2) (ac_s h.1.1 h.1.2 r c2) (by omega)) rfl rfl (fun i => ups_y _ _ _ i) rfl h.2.2.2.1 h.2.2.2.2, rfl⟩
set_option maxHeartbeats 4000000 in
theorem sc_fail (l : Launch) (D : va_G) (xo xh t : Nat) (ta : Nat → Nat) (cI cC cH : ClassId) {k : Nat} {q : SS} (h : CR k q) (hk : k < 500) (r g2 v : Int) (h_r : -2147483648 ≤ r ∧ r < 2147483648) (h_g2 : -2147483648 ≤ g2 ∧ g2 < 2147483648) (h_v : -2147483648 ≤ v ∧ v < 2147483648) : ∃ q' : SS, MW l D yX2_fail (wsY yX2_fail cX2_fail 4 (some .int)) { frames := 3, cells := 0, slots := 0, locals := 68 } (tyS cI cC cH) [.ref xo, .int (iI r), .int (iI g2), .int (iI v)] (wS xo xh t ta cI cC cH q) (wS xo xh t ta cI cC cH q') (some (.int (iI (fgV (SS.G q) r g2 v)))) ∧ Chg k q q' (fgV (SS.G q) r g2 v) (fgG (SS.G q) r g2 v) ∧ SS.T q' = SS.T q :=
  ⟨(rcxP (fgV (SS.G q) r g2 v) (SS.n q) q.1, rcxP (fgV (SS.G q) r g2 v) (SS.n q) q.2.1, rcxF (fgV (SS.G q) r g2 v) (SS.F q), SS.T q, rcxP (fgV (SS.G q) r g2 v) (SS.n q) (upS (upS (SS.H q) 1 (SS.G q)) 0 (fgG (SS.G q) r g2 v))), m_X2_fail l D xo xh t ta cI cC cH q.1 q.2.1 q.2.2.1 q.2.2.2.1 q.2.2.2.2 r g2 v h.1.1 (by omega) h.2.1 h_r h_g2 h_v, chg_mk _ _ h (by omega) (fun v => ng_fg h.1.1 v) (Gk_mk0 (fg_i h.1.1 r g2 v) (fg_s h.1.2 r g2 v) (by omega)) rfl rfl (fun i => ups_y _ _ _ i) rfl h.2.2.2.1 h.2.2.2.2, rfl⟩
set_option maxHeartbeats 4000000 in
theorem sc_mend (l : Launch) (D : va_G) (xo xh t : Nat) (ta : Nat → Nat) (cI cC cH : ClassId) {k : Nat} {q : SS} (h : CR k q) (hk : k < 500) (r g2 : Int) (h_r : -2147483648 ≤ r ∧ r < 2147483648) (h_g2 : -2147483648 ≤ g2 ∧ g2 < 2147483648) : ∃ q' : SS, MW l D yX2_mend (wsY yX2_mend cX2_mend 3 (some .int)) { frames := 3, cells := 0, slots := 0, locals := 66 } (tyS cI cC cH) [.ref xo, .int (iI r), .int (iI g2)] (wS xo xh t ta cI cC cH q) (wS xo xh t ta cI cC cH q') (some (.int (iI (mgV (SS.G q) r g2)))) ∧ Chg k q q' (mgV (SS.G q) r g2) (mgG (SS.G q) r g2) ∧ SS.T q' = SS.T q :=
  ⟨(rcxP (mgV (SS.G q) r g2) (SS.n q) q.1, rcxP (mgV (SS.G q) r g2) (SS.n q) q.2.1, rcxF (mgV (SS.G q) r g2) (SS.F q), SS.T q, rcxP (mgV (SS.G q) r g2) (SS.n q) (upS (upS (SS.H q) 1 (SS.G q)) 0 (mgG (SS.G q) r g2))), m_X2_mend l D xo xh t ta cI cC cH q.1 q.2.1 q.2.2.1 q.2.2.2.1 q.2.2.2.2 r g2 h.1.1 (by omega) h.2.1 h_r h_g2, chg_mk _ _ h (by omega) (fun v => ng_mg h.1.1 v) (Gk_mk0 (mg_i h.1.1 r g2) (mg_s h.1.2 r g2) (by omega)) rfl rfl (fun i => ups_y _ _ _ i) rfl h.2.2.2.1 h.2.2.2.2, rfl⟩
set_option maxHeartbeats 4000000 in
theorem sc_rate (l : Launch) (D : va_G) (xo xh t : Nat) (ta : Nat → Nat) (cI cC cH : ClassId) {k : Nat} {q : SS} (h : CR k q) (hk : k < 500) (r v : Int) (h_r : -2147483648 ≤ r ∧ r < 2147483648) (h_v : -2147483648 ≤ v ∧ v < 2147483648) : ∃ q' : SS, MW l D yX2_rate (wsY yX2_rate cX2_rate 3 (some .int)) { frames := 2, cells := 0, slots := 0, locals := 47 } (tyS cI cC cH) [.ref xo, .int (iI r), .int (iI v)] (wS xo xh t ta cI cC cH q) (wS xo xh t ta cI cC cH q') (some (.int (iI (crV (SS.G q) r v)))) ∧ Chg k q q' (crV (SS.G q) r v) (crG (SS.G q) r v) ∧ SS.T q' = SS.T q :=
  ⟨(rcxP (crV (SS.G q) r v) (SS.n q) q.1, rcxP (crV (SS.G q) r v) (SS.n q) q.2.1, rcxF (crV (SS.G q) r v) (SS.F q), SS.T q, rcxP (crV (SS.G q) r v) (SS.n q) (upS (upS (SS.H q) 1 (SS.G q)) 0 (crG (SS.G q) r v))), m_X2_rate l D xo xh t ta cI cC cH q.1 q.2.1 q.2.2.1 q.2.2.2.1 q.2.2.2.2 r v h.1.1 (by omega) h.2.1 h_r h_v, chg_mk _ _ h (by omega) (fun v => ng_cr h.1.1 v) (Gk_mk0 (cr_i h.1.1 r v) (cr_s h.1.2 r v) (by omega)) rfl rfl (fun i => ups_y _ _ _ i) rfl h.2.2.2.1 h.2.2.2.2, rfl⟩
set_option maxHeartbeats 4000000 in
theorem sc_days (l : Launch) (D : va_G) (xo xh t : Nat) (ta : Nat → Nat) (cI cC cH : ClassId) {k : Nat} {q : SS} (h : CR k q) (hk : k < 500) (n : Int) (h_n : -2147483648 ≤ n ∧ n < 2147483648) : ∃ q' : SS, MW l D yX2_days (wsY yX2_days cX2_days 2 (some .int)) { frames := 4, cells := 0, slots := 0, locals := 99 } (tyS cI cC cH) [.ref xo, .int (iI n)] (wS xo xh t ta cI cC cH q) (wS xo xh t ta cI cC cH q') (some (.int (iI (pdV (SS.G q) n 9999)))) ∧ Chg k q q' (pdV (SS.G q) n 9999) (pdG (SS.G q) n 9999) ∧ SS.T q' = SS.T q :=
  ⟨(rcxP (pdV (SS.G q) n 9999) (SS.n q) q.1, rcxP (pdV (SS.G q) n 9999) (SS.n q) q.2.1, rcxF (pdV (SS.G q) n 9999) (SS.F q), SS.T q, rcxP (pdV (SS.G q) n 9999) (SS.n q) (upS (upS (SS.H q) 1 (SS.G q)) 0 (pdG (SS.G q) n 9999))), m_X2_days l D xo xh t ta cI cC cH q.1 q.2.1 q.2.2.1 q.2.2.2.1 q.2.2.2.2 n h.1.1 (by omega) h.2.1 h_n, chg_mk _ _ h (by omega) (fun v => ng_pd v) (Gk_mk (pd_i h.1.1 (by omega) n 9999 (by omega)) (pd_s h.1.2 n) (by omega)) rfl rfl (fun i => ups_y _ _ _ i) rfl h.2.2.2.1 h.2.2.2.2, rfl⟩
set_option maxHeartbeats 4000000 in
theorem sc_set (l : Launch) (D : va_G) (xo xh t : Nat) (ta : Nat → Nat) (cI cC cH : ClassId) {k : Nat} {q : SS} (h : CR k q) (hk : k < 500) (w v : Int) (h_w : -2147483648 ≤ w ∧ w < 2147483648) (h_v : -2147483648 ≤ v ∧ v < 2147483648) : ∃ q' : SS, MW l D yX2_set (wsY yX2_set cX2_set 3 (some .int)) { frames := 3, cells := 0, slots := 0, locals := 66 } (tyS cI cC cH) [.ref xo, .int (iI w), .int (iI v)] (wS xo xh t ta cI cC cH q) (wS xo xh t ta cI cC cH q') (some (.int (iI (csV (SS.G q) w v)))) ∧ Chg k q q' (csV (SS.G q) w v) (csG (SS.G q) w v) ∧ SS.T q' = SS.T q :=
  ⟨(rcxP (csV (SS.G q) w v) (SS.n q) q.1, rcxP (csV (SS.G q) w v) (SS.n q) q.2.1, rcxF (csV (SS.G q) w v) (SS.F q), SS.T q, rcxP (csV (SS.G q) w v) (SS.n q) (upS (upS (SS.H q) 1 (SS.G q)) 0 (csG (SS.G q) w v))), m_X2_set l D xo xh t ta cI cC cH q.1 q.2.1 q.2.2.1 q.2.2.2.1 q.2.2.2.2 w v h.1.1 (by omega) h.2.1 h_w h_v, chg_mk _ _ h (by omega) (fun v => ng_cs h.1.1 v) (Gk_mk0 (cs_i h.1.1 w v) (cs_s h.1.2 w v) (by omega)) rfl rfl (fun i => ups_y _ _ _ i) rfl h.2.2.2.1 h.2.2.2.2, rfl⟩
theorem sc_undo (l : Launch) (D : va_G) (xo xh t : Nat) (ta : Nat → Nat) (cI cC cH : ClassId) {k : Nat} {q : SS} (h : CR k q) (hk : k < 500) (hn : 1 ≤ SS.n q) : ∃ q' : SS, MW l D yX2_undo (wsY yX2_undo cX2_undo 2 (some .int)) { frames := 0, cells := 0, slots := 0, locals := 0 } (tyS cI cC cH) [.ref xo] (wS xo xh t ta cI cC cH q) (wS xo xh t ta cI cC cH q') (some (.int (iI (SS.n q - 1)))) ∧ CR k q' ∧ SS.G q' = SS.H q (3 + (SS.n q - 1).toNat) ∧ SS.n q' = SS.n q - 1 :=
  ⟨(swp 0 (3 + (SS.n q - 1).toNat) q.1, swp 0 (3 + (SS.n q - 1).toNat) q.2.1, upG (SS.F q) 4 0 (SS.n q - 1), SS.T q, swp 0 (3 + (SS.n q - 1).toNat) (SS.H q)), m_X2_undo l D xo xh t ta cI cC cH q.1 q.2.1 q.2.2.1 q.2.2.2.1 q.2.2.2.2 ⟨hn, h.2.1.2⟩, und_mk _ _ h hn, rfl, rfl⟩
theorem sc_undo_no (l : Launch) (D : va_G) (xo xh t : Nat) (ta : Nat → Nat) (cI cC cH : ClassId) {k : Nat} {q : SS} (h : CR k q) (hk : k < 500) (hn : SS.n q = 0) : MW l D yX2_undo (wsY yX2_undo cX2_undo 2 (some .int)) { frames := 0, cells := 0, slots := 0, locals := 0 } (tyS cI cC cH) [.ref xo] (wS xo xh t ta cI cC cH q) (wS xo xh t ta cI cC cH q) (some (.int (iI (-1000002)))) := m_X2_undo_no l D xo xh t ta cI cC cH q.1 q.2.1 q.2.2.1 q.2.2.2.1 q.2.2.2.2 hn
theorem sc_wrongIn (l : Launch) (D : va_G) (xo xh t : Nat) (ta : Nat → Nat) (cI cC cH : ClassId) {k : Nat} {q : SS} (h : CR k q) (hk : k < 500) (r : Int) (hr : 0 ≤ r ∧ r < 6) : ∃ q' : SS, MW l D yX2_wrongIn (wsY yX2_wrongIn cX2_wrongIn 3 (some .int)) { frames := 4, cells := 0, slots := 0, locals := 99 } (tyS cI cC cH) [.ref xo, .int (iI r)] (wS xo xh t ta cI cC cH q) (wS xo xh t ta cI cC cH q') (some (.int (iI (fstZ (fun i : Nat => wrongZ (daysStZ (SS.G q) i) r) 301 0)))) ∧ CR k q' ∧ Sme q q' ∧ SS.T q' = SS.T q :=
  ⟨(q.1, q.2.1, SS.F q, SS.T q, upS (SS.H q) 2 _), m_X2_wrongIn l D xo xh t ta cI cC cH q.1 q.2.1 q.2.2.1 q.2.2.2.1 q.2.2.2.2 r h.1.1 (by omega) h.1.2.1 hr, CR_sme h ⟨rfl, rfl, fun i => by show upS (SS.H q) 2 _ (3 + i) = _; unfold upS; rw [if_neg (by omega)]⟩ h.2.2.2.1 h.2.2.2.2, ⟨rfl, rfl, fun i => by show upS (SS.H q) 2 _ (3 + i) = _; unfold upS; rw [if_neg (by omega)]⟩, rfl⟩
theorem sc_rightFor (l : Launch) (D : va_G) (xo xh t : Nat) (ta : Nat → Nat) (cI cC cH : ClassId) {k : Nat} {q : SS} (h : CR k q) (hk : k < 500) (r : Int) (hr : 0 ≤ r ∧ r < 6) : ∃ q' : SS, MW l D yX2_rightFor (wsY yX2_rightFor cX2_rightFor 3 (some .int)) { frames := 4, cells := 0, slots := 0, locals := 99 } (tyS cI cC cH) [.ref xo, .int (iI r)] (wS xo xh t ta cI cC cH q) (wS xo xh t ta cI cC cH q') (some (.int (iI (fstZ (fun i : Nat => if rightZ (daysStZ (upG (SS.G q) 11 2 0) i) r = 0 then 1 else 0) 301 0)))) ∧ CR k q' ∧ Sme q q' ∧ SS.T q' = SS.T q :=
  ⟨(q.1, q.2.1, SS.F q, SS.T q, upS (SS.H q) 2 _), m_X2_rightFor l D xo xh t ta cI cC cH q.1 q.2.1 q.2.2.1 q.2.2.2.1 q.2.2.2.2 r h.1.1 (by omega) h.1.2.1 hr, CR_sme h ⟨rfl, rfl, fun i => by show upS (SS.H q) 2 _ (3 + i) = _; unfold upS; rw [if_neg (by omega)]⟩ h.2.2.2.1 h.2.2.2.2, ⟨rfl, rfl, fun i => by show upS (SS.H q) 2 _ (3 + i) = _; unfold upS; rw [if_neg (by omega)]⟩, rfl⟩
theorem sc_safeAge (l : Launch) (D : va_G) (xo xh t : Nat) (ta : Nat → Nat) (cI cC cH : ClassId) {k : Nat} {q : SS} (h : CR k q) (hk : k < 500)  : ∃ q' : SS, MW l D yX2_safeAge (wsY yX2_safeAge cX2_safeAge 2 (some .int)) { frames := 5, cells := 0, slots := 0, locals := 121 } (tyS cI cC cH) [.ref xo] (wS xo xh t ta cI cC cH q) (wS xo xh t ta cI cC cH q') (some (.int (iI (sagZ (SS.G q) 60 0)))) ∧ CR k q' ∧ Sme q q' ∧ SS.T q' = SS.T q :=
  ⟨(q.1, q.2.1, SS.F q, SS.T q, upS (SS.H q) 2 _), m_X2_safeAge l D xo xh t ta cI cC cH q.1 q.2.1 q.2.2.1 q.2.2.2.1 q.2.2.2.2 h.1.1 (by omega) h.1.2.1, CR_sme h ⟨rfl, rfl, fun i => by show upS (SS.H q) 2 _ (3 + i) = _; unfold upS; rw [if_neg (by omega)]⟩ h.2.2.2.1 h.2.2.2.2, ⟨rfl, rfl, fun i => by show upS (SS.H q) 2 _ (3 + i) = _; unfold upS; rw [if_neg (by omega)]⟩, rfl⟩
theorem sme_ff (q : SS) (z : FF) : Sme q (q.1, q.2.1, ffF (SS.F q) z, FF.T z, upS (SS.H q) 2 (FF.X z)) := ⟨rfl, by show ffF (SS.F q) z 4 0 = _; unfold ffF; split <;> rfl, fun i => by show upS (SS.H q) 2 _ (3 + i) = _; unfold upS; rw [if_neg (by omega)]⟩
theorem flt_v (F : Nat → Int → Int) (z : FF) (w : Int) : (if ffV z = 0 then -1000004 else if w = 0 then ffF F z 7 0 else if w = 1 then ffF F z 8 0 else ffF F z 9 0) = (if ffV z = 0 then -1000004 else if w = 0 then FF.s z else if w = 1 then FF.f z else FF.c z) := by
  by_cases c : ffV z = 0
  · rw [if_pos c, if_pos c]
  · have c2 : ¬ FF.f z = 0 := fun h => c (if_pos h)
    rw [if_neg c, if_neg c]
    unfold ffF
    rw [if_neg c2]
    rfl
set_option maxHeartbeats 4000000 in
theorem sc_fault (l : Launch) (D : va_G) (xo xh t : Nat) (ta : Nat → Nat) (cI cC cH : ClassId) {k : Nat} {q : SS} (h : CR k q) (hk : k < 500) (w : Int) (hw : 0 ≤ w ∧ w ≤ 2) : ∃ q' : SS, MW l D yX2_fault (wsY yX2_fault cX2_fault 2 (some .int)) { frames := 6, cells := 0, slots := 0, locals := 142 } (tyS cI cC cH) [.ref xo, .int (iI w)] (wS xo xh t ta cI cC cH q) (wS xo xh t ta cI cC cH q') (some (.int (iI (if ffV (ffI (SS.G q) (SS.T q) 60) = 0 then -1000004 else if w = 0 then FF.s (ffI (SS.G q) (SS.T q) 60) else if w = 1 then FF.f (ffI (SS.G q) (SS.T q) 60) else FF.c (ffI (SS.G q) (SS.T q) 60))))) ∧ CR k q' ∧ Sme q q' ∧ SS.T q' 0 = SS.T q 0 ∧ SS.T q' 1 = SS.T q 1 := by
  have hi := ff_inv h.1.1 h.2.2.2.1 h.2.2.2.2 (by omega) 60 (Nat.le_refl 60)
  have m := m_X2_fault l D xo xh t ta cI cC cH q.1 q.2.1 q.2.2.1 q.2.2.2.1 q.2.2.2.2 w h.1.1 h.2.2.2.1 h.2.2.2.2 (by omega) hw
  generalize ffI (SS.G q) (SS.T q) 60 = z at hi m ⊢
  rw [flt_v] at m
  exact ⟨(q.1, q.2.1, ffF (SS.F q) z, FF.T z, upS (SS.H q) 2 (FF.X z)), m, CR_sme h (sme_ff q z) hi.2.1 hi.2.2.1, sme_ff q z, hi.2.2.2.2.2.2.2.2.1, hi.2.2.2.2.2.2.2.2.2⟩
/-- the orders of a text keep the day and the table -/
theorem ff_sm0 {G T : Nat → Int → Int} (h : G 12 0 ≤ 9999) : ∀ i : Nat, FF.X (ffI G T i) 12 0 ≤ 9999 ∧ FF.X (ffI G T i) 10 = G 10 := by
  intro i
  induction i with
  | zero => exact ⟨h, rfl⟩
  | succ i ih =>
    by_cases c : ffG (ffI G T i)
    · rw [ff_go c]
      generalize ffI G T i = q at ih
      have hd := do_s ih.1 (roT q.T q.s 2 0) (roT q.T q.s 3 0) (roT q.T q.s 3 1) (roT q.T q.s 3 2)
      unfold ffS
      split
      · exact ih
      · split
        · exact ⟨hd.1, hd.2.trans ih.2⟩
        · exact ⟨hd.1, hd.2.trans ih.2⟩
    · have e := ff_stop c (Nat.le_succ i)
      rw [show i.succ = i + 1 from rfl] at e
      rw [e]; exact ih
theorem ff_sm {k : Nat} {G T : Nat → Int → Int} (h : Sm k G) (i : Nat) : Sm (k + 1) (FF.X (ffI G T i)) := by
  have e := ff_sm0 (T := T) h.1 i
  refine ⟨e.1, ?_⟩
  rw [e.2]
  have := h.2
  omega
set_option maxHeartbeats 4000000 in
theorem sc_play (l : Launch) (D : va_G) (xo xh t : Nat) (ta : Nat → Nat) (cI cC cH : ClassId) {k : Nat} {q : SS} (h : CR k q) (hk : k < 500) : ∃ q' : SS, MW l D yX2_play (wsY yX2_play cX2_play 1 (some .int)) { frames := 6, cells := 0, slots := 0, locals := 142 } (tyS cI cC cH) [.ref xo] (wS xo xh t ta cI cC cH q) (wS xo xh t ta cI cC cH q') (some (.int (iI (if ffV (ffI (SS.G q) (SS.T q) 60) = 0 then FF.n (ffI (SS.G q) (SS.T q) 60) else -1000002)))) ∧ CR (k + 1) q' ∧ Aft q q' ∧ SS.n q' = (if ffV (ffI (SS.G q) (SS.T q) 60) = 0 then (if SS.n q < 4 then SS.n q + 1 else 4) else SS.n q) ∧ SS.T q' 1 = SS.T q 1 := by
  have hi := ff_inv h.1.1 h.2.2.2.1 h.2.2.2.2 (by omega) 60 (Nat.le_refl 60)
  have m := m_X2_play l D xo xh t ta cI cC cH q.1 q.2.1 q.2.2.1 q.2.2.2.1 q.2.2.2.2 h.1.1 h.2.2.2.1 h.2.2.2.2 (by omega) h.2.1
  have hsm := ff_sm (T := SS.T q) h.1.2 60
  generalize ffI (SS.G q) (SS.T q) 60 = z at hi m hsm ⊢
  by_cases c : ffV z = 0
  · have c2 : FF.f z = 0 := by
      by_cases d : FF.f z = 0
      · exact d
      · unfold ffV at c; rw [if_neg d] at c; omega
    have eF : ffF (SS.F q) z = upG (SS.F q) 6 0 (FF.n z) := if_pos c2
    have e6 : ffF (SS.F q) z 6 0 = FF.n z := by rw [eF]; rfl
    rw [if_pos c, if_pos c, e6] at m
    have hn : 0 ≤ FF.n z := hi.2.2.2.2.2.1.1
    have hh := chg_mk (k := k) (q := q) (V := FF.n z) (G' := FF.X z) (F' := ffF (SS.F q) z) (T' := FF.T z) (Y := upS (upS (upS (SS.H q) 2 (FF.X z)) 1 (SS.G q)) 0 (FF.X z)) (rcxP (FF.n z) (SS.n q) q.1) (rcxP (FF.n z) (SS.n q) q.2.1) h (by omega) (fun v => absurd v (by omega)) ⟨invG_mono hi.1 (by omega) (by omega), hsm⟩ rfl rfl (fun i => by rw [ups_y]; unfold upS; rw [if_neg (by omega)]) (by rw [eF]; rfl) hi.2.1 hi.2.2.1
    refine ⟨_, by rw [if_pos c]; exact m, hh.1, hh.2.1, ?_, hi.2.2.2.2.2.2.2.2.2⟩
    rw [hh.2.2.2, if_neg (by omega), if_pos c]
  · rw [if_neg c, if_neg c] at m
    have hs := sme_ff q z
    refine ⟨(q.1, q.2.1, ffF (SS.F q) z, FF.T z, upS (SS.H q) 2 (FF.X z)), by rw [if_neg c]; exact m, CR_mono (CR_sme h hs hi.2.1 hi.2.2.1) (by omega) (by omega), Or.inl ⟨hs.2.1, Or.inr hs.1⟩, ?_, hi.2.2.2.2.2.2.2.2.2⟩
    rw [if_neg c]; exact hs.2.1
