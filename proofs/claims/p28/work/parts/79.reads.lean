/-! reads of the class, one row each, and what bounds them -/
theorem rd_cell0 (l : Launch) (D : va_G) (xo xh t : Nat) (ta : Nat → Nat) (cI cC cH : ClassId) {k : Nat} {q : SS} (h : CR k q) (r c : Int) (hr : 0 ≤ r ∧ r < 6) (hc : 0 ≤ c ∧ c < 8) : MW l D yX2_cell (wsY yX2_cell cX2_cell 4 (some .int)) { frames := 3, cells := 0, slots := 0, locals := 73 } (tyS cI cC cH) [.ref xo, .int (iI r), .int (iI c), .int (iI 0)] (wS xo xh t ta cI cC cH q) (wS xo xh t ta cI cC cH q) (some (.int (iI (SS.G q 0 (8 * r + c))))) := m_X2_cell l D xo xh t ta cI cC cH q.1 q.2.1 q.2.2.1 q.2.2.2.1 q.2.2.2.2 r c 0 h.1.1 hr hc (by omega)
theorem rb_cell0 {k : Nat} {q : SS} (h : CR k q) (r c : Int) (hr : 0 ≤ r ∧ r < 6) (hc : 0 ≤ c ∧ c < 8) : 0 ≤ (SS.G q 0 (8 * r + c)) ∧ (SS.G q 0 (8 * r + c)) ≤ 2 := invG_0 h.1.1 _ (by omega) (by omega)
theorem rd_cell1 (l : Launch) (D : va_G) (xo xh t : Nat) (ta : Nat → Nat) (cI cC cH : ClassId) {k : Nat} {q : SS} (h : CR k q) (r c : Int) (hr : 0 ≤ r ∧ r < 6) (hc : 0 ≤ c ∧ c < 8) : MW l D yX2_cell (wsY yX2_cell cX2_cell 4 (some .int)) { frames := 3, cells := 0, slots := 0, locals := 73 } (tyS cI cC cH) [.ref xo, .int (iI r), .int (iI c), .int (iI 1)] (wS xo xh t ta cI cC cH q) (wS xo xh t ta cI cC cH q) (some (.int (iI (SS.G q 1 (8 * r + c))))) := m_X2_cell l D xo xh t ta cI cC cH q.1 q.2.1 q.2.2.1 q.2.2.2.1 q.2.2.2.2 r c 1 h.1.1 hr hc (by omega)
theorem rb_cell1 {k : Nat} {q : SS} (h : CR k q) (r c : Int) (hr : 0 ≤ r ∧ r < 6) (hc : 0 ≤ c ∧ c < 8) : 0 ≤ (SS.G q 1 (8 * r + c)) ∧ (SS.G q 1 (8 * r + c)) ≤ 999 := invG_1 h.1.1 _ (by omega) (by omega)
theorem rd_cell2 (l : Launch) (D : va_G) (xo xh t : Nat) (ta : Nat → Nat) (cI cC cH : ClassId) {k : Nat} {q : SS} (h : CR k q) (r c : Int) (hr : 0 ≤ r ∧ r < 6) (hc : 0 ≤ c ∧ c < 8) : MW l D yX2_cell (wsY yX2_cell cX2_cell 4 (some .int)) { frames := 3, cells := 0, slots := 0, locals := 73 } (tyS cI cC cH) [.ref xo, .int (iI r), .int (iI c), .int (iI 2)] (wS xo xh t ta cI cC cH q) (wS xo xh t ta cI cC cH q) (some (.int (iI (toldZ (SS.G q) r c)))) := m_X2_cell l D xo xh t ta cI cC cH q.1 q.2.1 q.2.2.1 q.2.2.2.1 q.2.2.2.2 r c 2 h.1.1 hr hc (by omega)
theorem rb_cell2 {k : Nat} {q : SS} (h : CR k q) (r c : Int) (hr : 0 ≤ r ∧ r < 6) (hc : 0 ≤ c ∧ c < 8) : 0 ≤ (toldZ (SS.G q) r c) ∧ (toldZ (SS.G q) r c) ≤ 2 := told_bd _ _ _
theorem rd_cell4 (l : Launch) (D : va_G) (xo xh t : Nat) (ta : Nat → Nat) (cI cC cH : ClassId) {k : Nat} {q : SS} (h : CR k q) (r c : Int) (hr : 0 ≤ r ∧ r < 6) (hc : 0 ≤ c ∧ c < 8) : MW l D yX2_cell (wsY yX2_cell cX2_cell 4 (some .int)) { frames := 3, cells := 0, slots := 0, locals := 73 } (tyS cI cC cH) [.ref xo, .int (iI r), .int (iI c), .int (iI 4)] (wS xo xh t ta cI cC cH q) (wS xo xh t ta cI cC cH q) (some (.int (iI (tellZ (SS.G q 1 (8 * r + c)) 300 700)))) := m_X2_cell l D xo xh t ta cI cC cH q.1 q.2.1 q.2.2.1 q.2.2.2.1 q.2.2.2.2 r c 4 h.1.1 hr hc (by omega)
theorem rb_cell4 {k : Nat} {q : SS} (h : CR k q) (r c : Int) (hr : 0 ≤ r ∧ r < 6) (hc : 0 ≤ c ∧ c < 8) : 0 ≤ (tellZ (SS.G q 1 (8 * r + c)) 300 700) ∧ (tellZ (SS.G q 1 (8 * r + c)) 300 700) ≤ 2 := tellZ_01 _ _ _
theorem rd_cell5 (l : Launch) (D : va_G) (xo xh t : Nat) (ta : Nat → Nat) (cI cC cH : ClassId) {k : Nat} {q : SS} (h : CR k q) (r c : Int) (hr : 0 ≤ r ∧ r < 6) (hc : 0 ≤ c ∧ c < 8) (_hk : k < 500) : MW l D yX2_cell (wsY yX2_cell cX2_cell 4 (some .int)) { frames := 3, cells := 0, slots := 0, locals := 73 } (tyS cI cC cH) [.ref xo, .int (iI r), .int (iI c), .int (iI 5)] (wS xo xh t ta cI cC cH q) (wS xo xh t ta cI cC cH q) (some (.int (iI (SS.G q 2 (8 * r + c))))) := m_X2_cell l D xo xh t ta cI cC cH q.1 q.2.1 q.2.2.1 q.2.2.2.1 q.2.2.2.2 r c 5 h.1.1 hr hc (by omega)
theorem rb_cell5 {k : Nat} {q : SS} (h : CR k q) (r c : Int) (hr : 0 ≤ r ∧ r < 6) (hc : 0 ≤ c ∧ c < 8) (hk : k < 500) : 0 ≤ (SS.G q 2 (8 * r + c)) ∧ (SS.G q 2 (8 * r + c)) ≤ 20000000 := by have a := invG_2 h.1.1 (8 * r + c) (by omega) (by omega); omega
def nearC (v a b : Int) : Int := if (if 0 ≤ v - b then v - b else 0 - (v - b)) < (if 0 ≤ v - a then v - a else 0 - (v - a)) then (if 0 ≤ v - b then v - b else 0 - (v - b)) else (if 0 ≤ v - a then v - a else 0 - (v - a))
theorem rd_cell6 (l : Launch) (D : va_G) (xo xh t : Nat) (ta : Nat → Nat) (cI cC cH : ClassId) {k : Nat} {q : SS} (h : CR k q) (r c : Int) (hr : 0 ≤ r ∧ r < 6) (hc : 0 ≤ c ∧ c < 8) : MW l D yX2_cell (wsY yX2_cell cX2_cell 4 (some .int)) { frames := 3, cells := 0, slots := 0, locals := 73 } (tyS cI cC cH) [.ref xo, .int (iI r), .int (iI c), .int (iI 6)] (wS xo xh t ta cI cC cH q) (wS xo xh t ta cI cC cH q) (some (.int (iI (nearC (SS.G q 1 (8 * r + c)) (thrZ (SS.G q) r 0) (thrZ (SS.G q) r 1))))) := m_X2_cell l D xo xh t ta cI cC cH q.1 q.2.1 q.2.2.1 q.2.2.2.1 q.2.2.2.2 r c 6 h.1.1 hr hc (by omega)
theorem rb_cell6 {k : Nat} {q : SS} (h : CR k q) (r c : Int) (hr : 0 ≤ r ∧ r < 6) (hc : 0 ≤ c ∧ c < 8) : 0 ≤ (nearC (SS.G q 1 (8 * r + c)) (thrZ (SS.G q) r 0) (thrZ (SS.G q) r 1)) ∧ (nearC (SS.G q 1 (8 * r + c)) (thrZ (SS.G q) r 0) (thrZ (SS.G q) r 1)) ≤ 999 := by
  have a := thrZ_bd h.1.1 r 0 hr (by omega)
  have b := thrZ_bd h.1.1 r 1 hr (by omega)
  have d := invG_1 h.1.1 (8 * r + c) (by omega) (by omega)
  unfold nearC
  omega
theorem rd_cell7 (l : Launch) (D : va_G) (xo xh t : Nat) (ta : Nat → Nat) (cI cC cH : ClassId) {k : Nat} {q : SS} (h : CR k q) (r c : Int) (hr : 0 ≤ r ∧ r < 6) (hc : 0 ≤ c ∧ c < 8) : MW l D yX2_cell (wsY yX2_cell cX2_cell 4 (some .int)) { frames := 3, cells := 0, slots := 0, locals := 73 } (tyS cI cC cH) [.ref xo, .int (iI r), .int (iI c), .int (iI 7)] (wS xo xh t ta cI cC cH q) (wS xo xh t ta cI cC cH q) (some (.int (iI (SS.G q 12 0 - SS.G q 3 (8 * r + c))))) := m_X2_cell l D xo xh t ta cI cC cH q.1 q.2.1 q.2.2.1 q.2.2.2.1 q.2.2.2.2 r c 7 h.1.1 hr hc (by omega)
theorem rb_cell7 {k : Nat} {q : SS} (h : CR k q) (r c : Int) (hr : 0 ≤ r ∧ r < 6) (hc : 0 ≤ c ∧ c < 8) : 0 ≤ (SS.G q 12 0 - SS.G q 3 (8 * r + c)) ∧ (SS.G q 12 0 - SS.G q 3 (8 * r + c)) ≤ 9999 := by have a := invG_3 h.1.1 (8 * r + c) (by omega) (by omega); have b := h.1.2.1; omega
theorem rd_guard0 (l : Launch) (D : va_G) (xo xh t : Nat) (ta : Nat → Nat) (cI cC cH : ClassId) {k : Nat} {q : SS} (h : CR k q) (r g : Int) (hr : 0 ≤ r ∧ r < 6) (hg : 0 ≤ g ∧ g < 3) : MW l D yX2_guard (wsY yX2_guard cX2_guard 4 (some .int)) { frames := 3, cells := 0, slots := 0, locals := 67 } (tyS cI cC cH) [.ref xo, .int (iI r), .int (iI g), .int (iI 0)] (wS xo xh t ta cI cC cH q) (wS xo xh t ta cI cC cH q) (some (.int (iI (SS.G q 4 (3 * r + g))))) := m_X2_guard l D xo xh t ta cI cC cH q.1 q.2.1 q.2.2.1 q.2.2.2.1 q.2.2.2.2 r g 0 h.1.1 hr hg (by omega)
theorem rb_guard0 {k : Nat} {q : SS} (h : CR k q) (r g : Int) (hr : 0 ≤ r ∧ r < 6) (hg : 0 ≤ g ∧ g < 3) : 0 ≤ (SS.G q 4 (3 * r + g)) ∧ (SS.G q 4 (3 * r + g)) ≤ 999 := invG_4 h.1.1 _ (by omega) (by omega)
theorem rd_guard1 (l : Launch) (D : va_G) (xo xh t : Nat) (ta : Nat → Nat) (cI cC cH : ClassId) {k : Nat} {q : SS} (h : CR k q) (r g : Int) (hr : 0 ≤ r ∧ r < 6) (hg : 0 ≤ g ∧ g < 3) : MW l D yX2_guard (wsY yX2_guard cX2_guard 4 (some .int)) { frames := 3, cells := 0, slots := 0, locals := 67 } (tyS cI cC cH) [.ref xo, .int (iI r), .int (iI g), .int (iI 1)] (wS xo xh t ta cI cC cH q) (wS xo xh t ta cI cC cH q) (some (.int (iI (SS.G q 5 (3 * r + g))))) := m_X2_guard l D xo xh t ta cI cC cH q.1 q.2.1 q.2.2.1 q.2.2.2.1 q.2.2.2.2 r g 1 h.1.1 hr hg (by omega)
theorem rb_guard1 {k : Nat} {q : SS} (h : CR k q) (r g : Int) (hr : 0 ≤ r ∧ r < 6) (hg : 0 ≤ g ∧ g < 3) : 0 ≤ (SS.G q 5 (3 * r + g)) ∧ (SS.G q 5 (3 * r + g)) ≤ 1 := invG_5 h.1.1 _ (by omega) (by omega)
theorem rd_row0 (l : Launch) (D : va_G) (xo xh t : Nat) (ta : Nat → Nat) (cI cC cH : ClassId) {k : Nat} {q : SS} (h : CR k q) (r : Int) (hr : 0 ≤ r ∧ r < 6) : MW l D yX2_row (wsY yX2_row cX2_row 3 (some .int)) { frames := 4, cells := 0, slots := 0, locals := 94 } (tyS cI cC cH) [.ref xo, .int (iI r), .int (iI 0)] (wS xo xh t ta cI cC cH q) (wS xo xh t ta cI cC cH q) (some (.int (iI (ownZ (SS.G q) r 0)))) := m_X2_row l D xo xh t ta cI cC cH q.1 q.2.1 q.2.2.1 q.2.2.2.1 q.2.2.2.2 r 0 h.1.1 hr (by omega)
theorem rb_row0 {k : Nat} {q : SS} (h : CR k q) (r : Int) (hr : 0 ≤ r ∧ r < 6) : 0 ≤ (ownZ (SS.G q) r 0) ∧ (ownZ (SS.G q) r 0) ≤ 999 := ownZ_bd h.1.1 r 0 hr (by omega)
theorem rd_row1 (l : Launch) (D : va_G) (xo xh t : Nat) (ta : Nat → Nat) (cI cC cH : ClassId) {k : Nat} {q : SS} (h : CR k q) (r : Int) (hr : 0 ≤ r ∧ r < 6) : MW l D yX2_row (wsY yX2_row cX2_row 3 (some .int)) { frames := 4, cells := 0, slots := 0, locals := 94 } (tyS cI cC cH) [.ref xo, .int (iI r), .int (iI 1)] (wS xo xh t ta cI cC cH q) (wS xo xh t ta cI cC cH q) (some (.int (iI (ownZ (SS.G q) r 1)))) := m_X2_row l D xo xh t ta cI cC cH q.1 q.2.1 q.2.2.1 q.2.2.2.1 q.2.2.2.2 r 1 h.1.1 hr (by omega)
theorem rb_row1 {k : Nat} {q : SS} (h : CR k q) (r : Int) (hr : 0 ≤ r ∧ r < 6) : 0 ≤ (ownZ (SS.G q) r 1) ∧ (ownZ (SS.G q) r 1) ≤ 999 := ownZ_bd h.1.1 r 1 hr (by omega)
theorem rd_row2 (l : Launch) (D : va_G) (xo xh t : Nat) (ta : Nat → Nat) (cI cC cH : ClassId) {k : Nat} {q : SS} (h : CR k q) (r : Int) (hr : 0 ≤ r ∧ r < 6) : MW l D yX2_row (wsY yX2_row cX2_row 3 (some .int)) { frames := 4, cells := 0, slots := 0, locals := 94 } (tyS cI cC cH) [.ref xo, .int (iI r), .int (iI 2)] (wS xo xh t ta cI cC cH q) (wS xo xh t ta cI cC cH q) (some (.int (iI (rightZ (SS.G q) r)))) := m_X2_row l D xo xh t ta cI cC cH q.1 q.2.1 q.2.2.1 q.2.2.2.1 q.2.2.2.2 r 2 h.1.1 hr (by omega)
theorem rb_row2 {k : Nat} {q : SS} (h : CR k q) (r : Int) (hr : 0 ≤ r ∧ r < 6) : (rightZ (SS.G q) r) = 0 ∨ (rightZ (SS.G q) r) = 1 := rightZ_01 _ _
theorem rd_row3 (l : Launch) (D : va_G) (xo xh t : Nat) (ta : Nat → Nat) (cI cC cH : ClassId) {k : Nat} {q : SS} (h : CR k q) (r : Int) (hr : 0 ≤ r ∧ r < 6) : MW l D yX2_row (wsY yX2_row cX2_row 3 (some .int)) { frames := 4, cells := 0, slots := 0, locals := 94 } (tyS cI cC cH) [.ref xo, .int (iI r), .int (iI 3)] (wS xo xh t ta cI cC cH q) (wS xo xh t ta cI cC cH q) (some (.int (iI (sourceZ (SS.G q) r)))) := m_X2_row l D xo xh t ta cI cC cH q.1 q.2.1 q.2.2.1 q.2.2.2.1 q.2.2.2.2 r 3 h.1.1 hr (by omega)
theorem rb_row3 {k : Nat} {q : SS} (h : CR k q) (r : Int) (hr : 0 ≤ r ∧ r < 6) : 0 ≤ (sourceZ (SS.G q) r) ∧ (sourceZ (SS.G q) r) ≤ 2 := by unfold sourceZ; omega
theorem rd_row4 (l : Launch) (D : va_G) (xo xh t : Nat) (ta : Nat → Nat) (cI cC cH : ClassId) {k : Nat} {q : SS} (h : CR k q) (r : Int) (hr : 0 ≤ r ∧ r < 6) : MW l D yX2_row (wsY yX2_row cX2_row 3 (some .int)) { frames := 4, cells := 0, slots := 0, locals := 94 } (tyS cI cC cH) [.ref xo, .int (iI r), .int (iI 4)] (wS xo xh t ta cI cC cH q) (wS xo xh t ta cI cC cH q) (some (.int (iI (thrZ (SS.G q) r 0)))) := m_X2_row l D xo xh t ta cI cC cH q.1 q.2.1 q.2.2.1 q.2.2.2.1 q.2.2.2.2 r 4 h.1.1 hr (by omega)
theorem rb_row4 {k : Nat} {q : SS} (h : CR k q) (r : Int) (hr : 0 ≤ r ∧ r < 6) : 0 ≤ (thrZ (SS.G q) r 0) ∧ (thrZ (SS.G q) r 0) ≤ 999 := thrZ_bd h.1.1 r 0 hr (by omega)
theorem rd_row5 (l : Launch) (D : va_G) (xo xh t : Nat) (ta : Nat → Nat) (cI cC cH : ClassId) {k : Nat} {q : SS} (h : CR k q) (r : Int) (hr : 0 ≤ r ∧ r < 6) : MW l D yX2_row (wsY yX2_row cX2_row 3 (some .int)) { frames := 4, cells := 0, slots := 0, locals := 94 } (tyS cI cC cH) [.ref xo, .int (iI r), .int (iI 5)] (wS xo xh t ta cI cC cH q) (wS xo xh t ta cI cC cH q) (some (.int (iI (thrZ (SS.G q) r 1)))) := m_X2_row l D xo xh t ta cI cC cH q.1 q.2.1 q.2.2.1 q.2.2.2.1 q.2.2.2.2 r 5 h.1.1 hr (by omega)
theorem rb_row5 {k : Nat} {q : SS} (h : CR k q) (r : Int) (hr : 0 ≤ r ∧ r < 6) : 0 ≤ (thrZ (SS.G q) r 1) ∧ (thrZ (SS.G q) r 1) ≤ 999 := thrZ_bd h.1.1 r 1 hr (by omega)
theorem rd_row6 (l : Launch) (D : va_G) (xo xh t : Nat) (ta : Nat → Nat) (cI cC cH : ClassId) {k : Nat} {q : SS} (h : CR k q) (r : Int) (hr : 0 ≤ r ∧ r < 6) : MW l D yX2_row (wsY yX2_row cX2_row 3 (some .int)) { frames := 4, cells := 0, slots := 0, locals := 94 } (tyS cI cC cH) [.ref xo, .int (iI r), .int (iI 6)] (wS xo xh t ta cI cC cH q) (wS xo xh t ta cI cC cH q) (some (.int (iI (wrongZ (SS.G q) r)))) := m_X2_row l D xo xh t ta cI cC cH q.1 q.2.1 q.2.2.1 q.2.2.2.1 q.2.2.2.2 r 6 h.1.1 hr (by omega)
theorem rb_row6 {k : Nat} {q : SS} (h : CR k q) (r : Int) (hr : 0 ≤ r ∧ r < 6) : 0 ≤ (wrongZ (SS.G q) r) ∧ (wrongZ (SS.G q) r) ≤ 8 := wrongZ_bd _ _
theorem rd_row8 (l : Launch) (D : va_G) (xo xh t : Nat) (ta : Nat → Nat) (cI cC cH : ClassId) {k : Nat} {q : SS} (h : CR k q) (r : Int) (hr : 0 ≤ r ∧ r < 6) : MW l D yX2_row (wsY yX2_row cX2_row 3 (some .int)) { frames := 4, cells := 0, slots := 0, locals := 94 } (tyS cI cC cH) [.ref xo, .int (iI r), .int (iI 8)] (wS xo xh t ta cI cC cH q) (wS xo xh t ta cI cC cH q) (some (.int (iI (SS.G q 6 r)))) := m_X2_row l D xo xh t ta cI cC cH q.1 q.2.1 q.2.2.1 q.2.2.2.1 q.2.2.2.2 r 8 h.1.1 hr (by omega)
theorem rb_row8 {k : Nat} {q : SS} (h : CR k q) (r : Int) (hr : 0 ≤ r ∧ r < 6) : 1 ≤ (SS.G q 6 r) ∧ (SS.G q 6 r) ≤ 200 := invG_6 h.1.1 r hr.1 hr.2
theorem rd_row9 (l : Launch) (D : va_G) (xo xh t : Nat) (ta : Nat → Nat) (cI cC cH : ClassId) {k : Nat} {q : SS} (h : CR k q) (r : Int) (hr : 0 ≤ r ∧ r < 6) : MW l D yX2_row (wsY yX2_row cX2_row 3 (some .int)) { frames := 4, cells := 0, slots := 0, locals := 94 } (tyS cI cC cH) [.ref xo, .int (iI r), .int (iI 9)] (wS xo xh t ta cI cC cH q) (wS xo xh t ta cI cC cH q) (some (.int (iI (ageZ (SS.G q) r)))) := m_X2_row l D xo xh t ta cI cC cH q.1 q.2.1 q.2.2.1 q.2.2.2.1 q.2.2.2.2 r 9 h.1.1 hr (by omega)
theorem rb_row9 {k : Nat} {q : SS} (h : CR k q) (r : Int) (hr : 0 ≤ r ∧ r < 6) : 0 ≤ (ageZ (SS.G q) r) ∧ (ageZ (SS.G q) r) ≤ 10000000 := age_bd h.1.1 r hr
theorem rd_row10 (l : Launch) (D : va_G) (xo xh t : Nat) (ta : Nat → Nat) (cI cC cH : ClassId) {k : Nat} {q : SS} (h : CR k q) (r : Int) (hr : 0 ≤ r ∧ r < 6) : MW l D yX2_row (wsY yX2_row cX2_row 3 (some .int)) { frames := 4, cells := 0, slots := 0, locals := 94 } (tyS cI cC cH) [.ref xo, .int (iI r), .int (iI 10)] (wS xo xh t ta cI cC cH q) (wS xo xh t ta cI cC cH q) (some (.int (iI (toldWordZ (SS.G q) r)))) := m_X2_row l D xo xh t ta cI cC cH q.1 q.2.1 q.2.2.1 q.2.2.2.1 q.2.2.2.2 r 10 h.1.1 hr (by omega)
theorem rb_row10 {k : Nat} {q : SS} (h : CR k q) (r : Int) (hr : 0 ≤ r ∧ r < 6) : 0 ≤ (toldWordZ (SS.G q) r) ∧ (toldWordZ (SS.G q) r) ≤ 6560 := by have a := toldWord_bd (SS.G q) r; omega
theorem rd_row11 (l : Launch) (D : va_G) (xo xh t : Nat) (ta : Nat → Nat) (cI cC cH : ClassId) {k : Nat} {q : SS} (h : CR k q) (r : Int) (hr : 0 ≤ r ∧ r < 6) : MW l D yX2_row (wsY yX2_row cX2_row 3 (some .int)) { frames := 4, cells := 0, slots := 0, locals := 94 } (tyS cI cC cH) [.ref xo, .int (iI r), .int (iI 11)] (wS xo xh t ta cI cC cH q) (wS xo xh t ta cI cC cH q) (some (.int (iI (levelWordZ (SS.G q) r)))) := m_X2_row l D xo xh t ta cI cC cH q.1 q.2.1 q.2.2.1 q.2.2.2.1 q.2.2.2.2 r 11 h.1.1 hr (by omega)
theorem rb_row11 {k : Nat} {q : SS} (h : CR k q) (r : Int) (hr : 0 ≤ r ∧ r < 6) : 0 ≤ (levelWordZ (SS.G q) r) ∧ (levelWordZ (SS.G q) r) ≤ 6560 := by
  have a := hornZ_bd (f := fun c => SS.G q 0 (8 * r + c)) (fun c h0 h1 => invG_0 h.1.1 _ (by omega) (by omega)) 8 (Nat.le_refl _)
  unfold levelWordZ
  have e : (3 : Int) ^ 8 = 6561 := by decide
  omega
theorem rd_row12 (l : Launch) (D : va_G) (xo xh t : Nat) (ta : Nat → Nat) (cI cC cH : ClassId) {k : Nat} {q : SS} (h : CR k q) (r : Int) (hr : 0 ≤ r ∧ r < 6) : MW l D yX2_row (wsY yX2_row cX2_row 3 (some .int)) { frames := 4, cells := 0, slots := 0, locals := 94 } (tyS cI cC cH) [.ref xo, .int (iI r), .int (iI 12)] (wS xo xh t ta cI cC cH q) (wS xo xh t ta cI cC cH q) (some (.int (iI (SS.G q 8 r)))) := m_X2_row l D xo xh t ta cI cC cH q.1 q.2.1 q.2.2.1 q.2.2.2.1 q.2.2.2.2 r 12 h.1.1 hr (by omega)
theorem rd_row13 (l : Launch) (D : va_G) (xo xh t : Nat) (ta : Nat → Nat) (cI cC cH : ClassId) {k : Nat} {q : SS} (h : CR k q) (r : Int) (hr : 0 ≤ r ∧ r < 6) : MW l D yX2_row (wsY yX2_row cX2_row 3 (some .int)) { frames := 4, cells := 0, slots := 0, locals := 94 } (tyS cI cC cH) [.ref xo, .int (iI r), .int (iI 13)] (wS xo xh t ta cI cC cH q) (wS xo xh t ta cI cC cH q) (some (.int (iI (SS.G q 9 r)))) := m_X2_row l D xo xh t ta cI cC cH q.1 q.2.1 q.2.2.1 q.2.2.2.1 q.2.2.2.2 r 13 h.1.1 hr (by omega)
theorem rd_tbl (l : Launch) (D : va_G) (xo xh t : Nat) (ta : Nat → Nat) (cI cC cH : ClassId) {k : Nat} {q : SS} (h : CR k q) (v u : Int) (hv : 0 ≤ v ∧ v < 3) (hu : 0 ≤ u ∧ u < 3) : MW l D yX2_table (wsY yX2_table cX2_table 3 (some .int)) { frames := 2, cells := 0, slots := 0, locals := 44 } (tyS cI cC cH) [.ref xo, .int (iI v), .int (iI u)] (wS xo xh t ta cI cC cH q) (wS xo xh t ta cI cC cH q) (some (.int (iI (SS.G q 10 (3 * v + u))))) := m_X2_table l D xo xh t ta cI cC cH q.1 q.2.1 q.2.2.1 q.2.2.2.1 q.2.2.2.2 v u h.1.1 hv hu
theorem rb_tbl {k : Nat} {q : SS} (h : CR k q) (v u : Int) (hv : 0 ≤ v ∧ v < 3) (hu : 0 ≤ u ∧ u < 3) (hk : k < 500) : 0 ≤ SS.G q 10 (3 * v + u) ∧ SS.G q 10 (3 * v + u) ≤ 20000000 := by
  have a := invG_10 h.1.1 (3 * v + u) (by omega) (by omega)
  omega
theorem rd_cnt0 (l : Launch) (D : va_G) (xo xh t : Nat) (ta : Nat → Nat) (cI cC cH : ClassId) {k : Nat} {q : SS} (h : CR k q) (_hk : k < 500) : MW l D yX2_count (wsY yX2_count cX2_count 2 (some .int)) { frames := 5, cells := 0, slots := 0, locals := 112 } (tyS cI cC cH) [.ref xo, .int (iI 0)] (wS xo xh t ta cI cC cH q) (wS xo xh t ta cI cC cH q) (some (.int (iI (SS.G q 12 0)))) := m_X2_count l D xo xh t ta cI cC cH q.1 q.2.1 q.2.2.1 q.2.2.2.1 q.2.2.2.2 0 h.1.1 (by omega)
theorem rb_cnt0 {k : Nat} {q : SS} (h : CR k q) (_hk : k < 500) : 0 ≤ (SS.G q 12 0) ∧ (SS.G q 12 0) ≤ 9999 := ⟨(invG_d h.1.1).1, h.1.2.1⟩
theorem rd_cnt1 (l : Launch) (D : va_G) (xo xh t : Nat) (ta : Nat → Nat) (cI cC cH : ClassId) {k : Nat} {q : SS} (h : CR k q) (_hk : k < 500) : MW l D yX2_count (wsY yX2_count cX2_count 2 (some .int)) { frames := 5, cells := 0, slots := 0, locals := 112 } (tyS cI cC cH) [.ref xo, .int (iI 1)] (wS xo xh t ta cI cC cH q) (wS xo xh t ta cI cC cH q) (some (.int (iI (allWrongZ (SS.G q) 6)))) := m_X2_count l D xo xh t ta cI cC cH q.1 q.2.1 q.2.2.1 q.2.2.2.1 q.2.2.2.2 1 h.1.1 (by omega)
theorem rb_cnt1 {k : Nat} {q : SS} (h : CR k q) (_hk : k < 500) : 0 ≤ (allWrongZ (SS.G q) 6) ∧ (allWrongZ (SS.G q) 6) ≤ 48 := allWrong_bd _
theorem rd_cnt6 (l : Launch) (D : va_G) (xo xh t : Nat) (ta : Nat → Nat) (cI cC cH : ClassId) {k : Nat} {q : SS} (h : CR k q) (_hk : k < 500) : MW l D yX2_count (wsY yX2_count cX2_count 2 (some .int)) { frames := 5, cells := 0, slots := 0, locals := 112 } (tyS cI cC cH) [.ref xo, .int (iI 6)] (wS xo xh t ta cI cC cH q) (wS xo xh t ta cI cC cH q) (some (.int (iI (sumZ 18 (SS.G q 5))))) := m_X2_count l D xo xh t ta cI cC cH q.1 q.2.1 q.2.2.1 q.2.2.2.1 q.2.2.2.2 6 h.1.1 (by omega)
theorem rb_cnt6 {k : Nat} {q : SS} (h : CR k q) (_hk : k < 500) : 0 ≤ (sumZ 18 (SS.G q 5)) ∧ (sumZ 18 (SS.G q 5)) ≤ 18 := failed_bd h.1.1
theorem rd_cnt7 (l : Launch) (D : va_G) (xo xh t : Nat) (ta : Nat → Nat) (cI cC cH : ClassId) {k : Nat} {q : SS} (h : CR k q) (hk : k < 500) : MW l D yX2_count (wsY yX2_count cX2_count 2 (some .int)) { frames := 5, cells := 0, slots := 0, locals := 112 } (tyS cI cC cH) [.ref xo, .int (iI 7)] (wS xo xh t ta cI cC cH q) (wS xo xh t ta cI cC cH q) (some (.int (iI (sumZ 6 (SS.G q 8))))) := m_X2_count l D xo xh t ta cI cC cH q.1 q.2.1 q.2.2.1 q.2.2.2.1 q.2.2.2.2 7 h.1.1 (by omega)
theorem rb_cnt7 {k : Nat} {q : SS} (h : CR k q) (hk : k < 500) : 0 ≤ (sumZ 6 (SS.G q 8)) ∧ (sumZ 6 (SS.G q 8)) ≤ 1000000000 := by have a := lost_bd h.1.1; omega
theorem rd_cnt10 (l : Launch) (D : va_G) (xo xh t : Nat) (ta : Nat → Nat) (cI cC cH : ClassId) {k : Nat} {q : SS} (h : CR k q) (hk : k < 500) : MW l D yX2_count (wsY yX2_count cX2_count 2 (some .int)) { frames := 5, cells := 0, slots := 0, locals := 112 } (tyS cI cC cH) [.ref xo, .int (iI 10)] (wS xo xh t ta cI cC cH q) (wS xo xh t ta cI cC cH q) (some (.int (iI (sumZ 9 (SS.G q 10))))) := m_X2_count l D xo xh t ta cI cC cH q.1 q.2.1 q.2.2.1 q.2.2.2.1 q.2.2.2.2 10 h.1.1 (by omega)
theorem rb_cnt10 {k : Nat} {q : SS} (h : CR k q) (hk : k < 500) : 0 ≤ (sumZ 9 (SS.G q 10)) ∧ (sumZ 9 (SS.G q 10)) < 1000 := asked_k h.1 hk
theorem rd_cnt11 (l : Launch) (D : va_G) (xo xh t : Nat) (ta : Nat → Nat) (cI cC cH : ClassId) {k : Nat} {q : SS} (h : CR k q) (_hk : k < 500) : MW l D yX2_count (wsY yX2_count cX2_count 2 (some .int)) { frames := 5, cells := 0, slots := 0, locals := 112 } (tyS cI cC cH) [.ref xo, .int (iI 11)] (wS xo xh t ta cI cC cH q) (wS xo xh t ta cI cC cH q) (some (.int (iI (pairsZ (SS.G q) 9)))) := m_X2_count l D xo xh t ta cI cC cH q.1 q.2.1 q.2.2.1 q.2.2.2.1 q.2.2.2.2 11 h.1.1 (by omega)
theorem rb_cnt11 {k : Nat} {q : SS} (h : CR k q) (_hk : k < 500) : 0 ≤ (pairsZ (SS.G q) 9) ∧ (pairsZ (SS.G q) 9) ≤ 9 := pairs_bd _
theorem rd_cnt12 (l : Launch) (D : va_G) (xo xh t : Nat) (ta : Nat → Nat) (cI cC cH : ClassId) {k : Nat} {q : SS} (h : CR k q) (_hk : k < 500) : MW l D yX2_count (wsY yX2_count cX2_count 2 (some .int)) { frames := 5, cells := 0, slots := 0, locals := 112 } (tyS cI cC cH) [.ref xo, .int (iI 12)] (wS xo xh t ta cI cC cH q) (wS xo xh t ta cI cC cH q) (some (.int (iI (ofLevelZ (SS.G q) 0 48)))) := m_X2_count l D xo xh t ta cI cC cH q.1 q.2.1 q.2.2.1 q.2.2.2.1 q.2.2.2.2 12 h.1.1 (by omega)
theorem rb_cnt12 {k : Nat} {q : SS} (h : CR k q) (_hk : k < 500) : 0 ≤ (ofLevelZ (SS.G q) 0 48) ∧ (ofLevelZ (SS.G q) 0 48) ≤ 48 := level_bd _ _
theorem rd_cnt13 (l : Launch) (D : va_G) (xo xh t : Nat) (ta : Nat → Nat) (cI cC cH : ClassId) {k : Nat} {q : SS} (h : CR k q) (_hk : k < 500) : MW l D yX2_count (wsY yX2_count cX2_count 2 (some .int)) { frames := 5, cells := 0, slots := 0, locals := 112 } (tyS cI cC cH) [.ref xo, .int (iI 13)] (wS xo xh t ta cI cC cH q) (wS xo xh t ta cI cC cH q) (some (.int (iI (ofLevelZ (SS.G q) 1 48)))) := m_X2_count l D xo xh t ta cI cC cH q.1 q.2.1 q.2.2.1 q.2.2.2.1 q.2.2.2.2 13 h.1.1 (by omega)
theorem rb_cnt13 {k : Nat} {q : SS} (h : CR k q) (_hk : k < 500) : 0 ≤ (ofLevelZ (SS.G q) 1 48) ∧ (ofLevelZ (SS.G q) 1 48) ≤ 48 := level_bd _ _
theorem rd_cnt14 (l : Launch) (D : va_G) (xo xh t : Nat) (ta : Nat → Nat) (cI cC cH : ClassId) {k : Nat} {q : SS} (h : CR k q) (_hk : k < 500) : MW l D yX2_count (wsY yX2_count cX2_count 2 (some .int)) { frames := 5, cells := 0, slots := 0, locals := 112 } (tyS cI cC cH) [.ref xo, .int (iI 14)] (wS xo xh t ta cI cC cH q) (wS xo xh t ta cI cC cH q) (some (.int (iI (ofLevelZ (SS.G q) 2 48)))) := m_X2_count l D xo xh t ta cI cC cH q.1 q.2.1 q.2.2.1 q.2.2.2.1 q.2.2.2.2 14 h.1.1 (by omega)
theorem rb_cnt14 {k : Nat} {q : SS} (h : CR k q) (_hk : k < 500) : 0 ≤ (ofLevelZ (SS.G q) 2 48) ∧ (ofLevelZ (SS.G q) 2 48) ≤ 48 := level_bd _ _
theorem rd_cnt15 (l : Launch) (D : va_G) (xo xh t : Nat) (ta : Nat → Nat) (cI cC cH : ClassId) {k : Nat} {q : SS} (h : CR k q) (_hk : k < 500) : MW l D yX2_count (wsY yX2_count cX2_count 2 (some .int)) { frames := 5, cells := 0, slots := 0, locals := 112 } (tyS cI cC cH) [.ref xo, .int (iI 15)] (wS xo xh t ta cI cC cH q) (wS xo xh t ta cI cC cH q) (some (.int (iI (SS.n q)))) := m_X2_count l D xo xh t ta cI cC cH q.1 q.2.1 q.2.2.1 q.2.2.2.1 q.2.2.2.2 15 h.1.1 (by omega)
theorem rb_cnt15 {k : Nat} {q : SS} (h : CR k q) (_hk : k < 500) : 0 ≤ (SS.n q) ∧ (SS.n q) ≤ 4 := h.2.1
theorem rd_cnt16 (l : Launch) (D : va_G) (xo xh t : Nat) (ta : Nat → Nat) (cI cC cH : ClassId) {k : Nat} {q : SS} (h : CR k q) (_hk : k < 500) : MW l D yX2_count (wsY yX2_count cX2_count 2 (some .int)) { frames := 5, cells := 0, slots := 0, locals := 112 } (tyS cI cC cH) [.ref xo, .int (iI 16)] (wS xo xh t ta cI cC cH q) (wS xo xh t ta cI cC cH q) (some (.int (iI (SS.T q 1 0)))) := m_X2_count l D xo xh t ta cI cC cH q.1 q.2.1 q.2.2.1 q.2.2.2.1 q.2.2.2.2 16 h.1.1 (by omega)
theorem rb_cnt16 {k : Nat} {q : SS} (h : CR k q) (_hk : k < 500) : 0 ≤ (SS.T q 1 0) ∧ (SS.T q 1 0) ≤ 60 := h.2.2.2.1.1
theorem rd_cnt21 (l : Launch) (D : va_G) (xo xh t : Nat) (ta : Nat → Nat) (cI cC cH : ClassId) {k : Nat} {q : SS} (h : CR k q) (_hk : k < 500) : MW l D yX2_count (wsY yX2_count cX2_count 2 (some .int)) { frames := 5, cells := 0, slots := 0, locals := 112 } (tyS cI cC cH) [.ref xo, .int (iI 21)] (wS xo xh t ta cI cC cH q) (wS xo xh t ta cI cC cH q) (some (.int (iI (SS.G q 11 1)))) := m_X2_count l D xo xh t ta cI cC cH q.1 q.2.1 q.2.2.1 q.2.2.2.1 q.2.2.2.2 21 h.1.1 (by omega)
theorem rb_cnt21 {k : Nat} {q : SS} (h : CR k q) (_hk : k < 500) : 1 ≤ (SS.G q 11 1) ∧ (SS.G q 11 1) ≤ 300 := invG_s1 h.1.1
theorem rd_cntS (l : Launch) (D : va_G) (xo xh t : Nat) (ta : Nat → Nat) (cI cC cH : ClassId) {k : Nat} {q : SS} (h : CR k q) (w : Int) (hw : 0 ≤ w ∧ w < 3) : MW l D yX2_count (wsY yX2_count cX2_count 2 (some .int)) { frames := 5, cells := 0, slots := 0, locals := 112 } (tyS cI cC cH) [.ref xo, .int (iI (20 + w))] (wS xo xh t ta cI cC cH q) (wS xo xh t ta cI cC cH q) (some (.int (iI (SS.G q 11 w)))) := by
  have m := m_X2_count l D xo xh t ta cI cC cH q.1 q.2.1 q.2.2.1 q.2.2.2.1 q.2.2.2.2 (20 + w) h.1.1 (by omega)
  rcases (show w = 0 ∨ w = 1 ∨ w = 2 by omega) with rfl | rfl | rfl <;> exact m
theorem rb_cntS {k : Nat} {q : SS} (h : CR k q) (w : Int) (hw : 0 ≤ w ∧ w < 3) : 0 ≤ SS.G q 11 w ∧ SS.G q 11 w ≤ 700 := invG_11 h.1.1 w hw.1 hw.2
theorem rd_tal (l : Launch) (D : va_G) (xo xh t : Nat) (ta : Nat → Nat) (cI cC cH : ClassId) {k : Nat} {q : SS} (h : CR k q) (w : Int) (hw : 0 ≤ w ∧ w < 15) : MW l D yX2_count (wsY yX2_count cX2_count 2 (some .int)) { frames := 5, cells := 0, slots := 0, locals := 112 } (tyS cI cC cH) [.ref xo, .int (iI w)] (wS xo xh t ta cI cC cH q) (wS xo xh t ta cI cC cH q) (some (.int (iI (tallyV (SS.G q) w)))) := by
  have m := m_X2_count l D xo xh t ta cI cC cH q.1 q.2.1 q.2.2.1 q.2.2.2.1 q.2.2.2.2 w h.1.1 (by omega)
  rw [if_neg (by omega), if_neg (by omega)] at m
  exact m
theorem rd_rowV (l : Launch) (D : va_G) (xo xh t : Nat) (ta : Nat → Nat) (cI cC cH : ClassId) {k : Nat} {q : SS} (h : CR k q) (r w : Int) (hr : 0 ≤ r ∧ r < 6) (hw : 0 ≤ w ∧ w < 100) : MW l D yX2_row (wsY yX2_row cX2_row 3 (some .int)) { frames := 4, cells := 0, slots := 0, locals := 94 } (tyS cI cC cH) [.ref xo, .int (iI r), .int (iI w)] (wS xo xh t ta cI cC cH q) (wS xo xh t ta cI cC cH q) (some (.int (iI (rowV (SS.G q) r w)))) := m_X2_row l D xo xh t ta cI cC cH q.1 q.2.1 q.2.2.1 q.2.2.2.1 q.2.2.2.2 r w h.1.1 hr (by omega)
theorem rd_guardV (l : Launch) (D : va_G) (xo xh t : Nat) (ta : Nat → Nat) (cI cC cH : ClassId) {k : Nat} {q : SS} (h : CR k q) (r g w : Int) (hr : 0 ≤ r ∧ r < 6) (hg : 0 ≤ g ∧ g < 3) (hw : 0 ≤ w ∧ w < 100) : MW l D yX2_guard (wsY yX2_guard cX2_guard 4 (some .int)) { frames := 3, cells := 0, slots := 0, locals := 67 } (tyS cI cC cH) [.ref xo, .int (iI r), .int (iI g), .int (iI w)] (wS xo xh t ta cI cC cH q) (wS xo xh t ta cI cC cH q) (some (.int (iI (guardV (SS.G q) r g w)))) := m_X2_guard l D xo xh t ta cI cC cH q.1 q.2.1 q.2.2.1 q.2.2.2.1 q.2.2.2.2 r g w h.1.1 hr hg (by omega)
theorem rd_worst (l : Launch) (D : va_G) (xo xh t : Nat) (ta : Nat → Nat) (cI cC cH : ClassId) {k : Nat} {q : SS} (h : CR k q) (r : Int) (hr : 0 ≤ r ∧ r < 6) : MW l D yX2_worst (wsY yX2_worst cX2_worst 5 (some .int)) { frames := 4, cells := 0, slots := 0, locals := 94 } (tyS cI cC cH) [.ref xo, .int (iI r)] (wS xo xh t ta cI cC cH q) (wS xo xh t ta cI cC cH q) (some (.int (iI (wsZ (SS.G q) (r.toNat + 1)).2))) := m_X2_worst l D xo xh t ta cI cC cH q.1 q.2.1 q.2.2.1 q.2.2.2.1 q.2.2.2.2 r h.1.1 hr
theorem rb_worst {k : Nat} {q : SS} (_h : CR k q) (r : Int) (_hr : 0 ≤ r ∧ r < 6) : 0 ≤ (wsZ (SS.G q) (r.toNat + 1)).2 ∧ (wsZ (SS.G q) (r.toNat + 1)).2 ≤ 5 := (ws_bd (SS.G q) (r.toNat + 1)).2
def meanZ (G : Nat → Int → Int) : Int := ((FP.fdiv (FP.i2f (iI (distZ G 48))) 1111490560).toNat : Int)
def shareZ (G : Nat → Int → Int) : Int := if (sumZ 9 (G 10)) = 0 then -1000004 else ((FP.fdiv (FP.i2f (iI (rightTZ G 3))) (FP.i2f (iI (sumZ 9 (G 10))))).toNat : Int)
theorem rd_mean (l : Launch) (D : va_G) (xo xh t : Nat) (ta : Nat → Nat) (cI cC cH : ClassId) {k : Nat} {q : SS} (h : CR k q) : MW l D yX2_mean (wsY yX2_mean cX2_mean 1 (some .int)) { frames := 2, cells := 0, slots := 0, locals := 43 } (tyS cI cC cH) [.ref xo] (wS xo xh t ta cI cC cH q) (wS xo xh t ta cI cC cH q) (some (.int (iI (meanZ (SS.G q))))) := m_X2_mean l D xo xh t ta cI cC cH q.1 q.2.1 q.2.2.1 q.2.2.2.1 q.2.2.2.2 h.1.1
theorem rb_mean {k : Nat} {q : SS} (h : CR k q) : 0 ≤ meanZ (SS.G q) ∧ meanZ (SS.G q) < 2147483648 := by
  have a := dist_bd h.1.1 48 (Nat.le_refl _)
  have b := fPos_bits (fp_48 (a := distZ (SS.G q) 48) (by omega))
  unfold meanZ
  omega
theorem rd_share (l : Launch) (D : va_G) (xo xh t : Nat) (ta : Nat → Nat) (cI cC cH : ClassId) {k : Nat} {q : SS} (h : CR k q) (hk : k < 500) : MW l D yX2_share (wsY yX2_share cX2_share 2 (some .int)) { frames := 2, cells := 0, slots := 0, locals := 42 } (tyS cI cC cH) [.ref xo] (wS xo xh t ta cI cC cH q) (wS xo xh t ta cI cC cH q) (some (.int (iI (shareZ (SS.G q))))) := m_X2_share l D xo xh t ta cI cC cH q.1 q.2.1 q.2.2.1 q.2.2.2.1 q.2.2.2.2 h.1.1 (by have := asked_k h.1 hk; show sumZ 9 (SS.G q 10) < 16777216; omega)
theorem rb_share {k : Nat} {q : SS} (h : CR k q) (hk : k < 500) : (-1000004 ≤ shareZ (SS.G q) ∧ shareZ (SS.G q) < 2147483648) ∧ (shareZ (SS.G q) = -1000004 ↔ sumZ 9 (SS.G q 10) = 0) := by
  have a := asked_k h.1 hk
  have b := right_bd h.1.1
  have d := right_le h.1.1
  unfold shareZ
  by_cases c : sumZ 9 (SS.G q 10) = 0
  · rw [if_pos c]
    exact ⟨by decide, fun _ => c, fun _ => rfl⟩
  · rw [if_neg c]
    have f := fPos_bits (fp_q (a := rightTZ (SS.G q) 3) (b := sumZ 9 (SS.G q 10)) (by omega) (by omega))
    refine ⟨by omega, fun e => ?_, fun e => absurd e c⟩
    exfalso
    omega
/-! the text: how often a sign stands in it -/
def cntC (f : Int → Int) (c : Int) (n : Nat) : Int := sumZ n (fun p => if f p = c then 1 else 0)
theorem cnt_s (f : Int → Int) (c : Int) (n : Nat) : cntC f c (n + 1) = cntC f c n + (if f n = c then 1 else 0) := rfl
/-- a text of the state q: k orders' ends, d points, of the length m -/
def TX (q : SS) (m k d : Int) : Prop := SS.T q 1 0 = m ∧ cntC (SS.T q 0) 59 m.toNat = k ∧ cntC (SS.T q 0) 46 m.toNat = d
theorem cnt_up (f : Int → Int) (c v : Int) (n : Nat) : cntC (upI f n v) c (n + 1) = cntC f c n + (if v = c then 1 else 0) := by
  rw [cnt_s, upI_s]
  congr 1
  refine sum_cong n (fun p h0 h1 => ?_)
  show (if upI f n v p = c then (1 : Int) else 0) = if f p = c then 1 else 0
  rw [upI_n (by omega)]
theorem sc_clear (l : Launch) (D : va_G) (xo xh t : Nat) (ta : Nat → Nat) (cI cC cH : ClassId) {k : Nat} {q : SS} (h : CR k q) : ∃ q' : SS, MW l D yX2_clearText (wsY yX2_clearText cX2_clearText 1 (some .int)) { frames := 1, cells := 0, slots := 0, locals := 21 } (tyS cI cC cH) [.ref xo] (wS xo xh t ta cI cC cH q) (wS xo xh t ta cI cC cH q') (some (.int (iI (SS.T q 1 0)))) ∧ CR k q' ∧ Sme q q' ∧ TX q' 0 0 0 :=
  ⟨(q.1, q.2.1, SS.F q, upG (SS.T q) 1 0 0, SS.H q), m_X2_clearText l D xo xh t ta cI cC cH q.1 q.2.1 q.2.2.1 q.2.2.2.1 q.2.2.2.2, CR_sme h ⟨rfl, rfl, fun _ => rfl⟩ ⟨⟨Int.le_refl 0, by show (0 : Int) ≤ 60; decide⟩, h.2.2.2.1.2⟩ h.2.2.2.2, ⟨rfl, rfl, fun _ => rfl⟩, rfl, rfl, rfl⟩
theorem sc_type (l : Launch) (D : va_G) (xo xh t : Nat) (ta : Nat → Nat) (cI cC cH : ClassId) {k : Nat} {q : SS} (h : CR k q) (v : Int) (hv : 32 ≤ v ∧ v ≤ 126) {m i d : Int} (hm : TX q m i d) (h6 : m < 60) : ∃ q' : SS, MW l D yX2_type (wsY yX2_type cX2_type 2 (some .int)) { frames := 2, cells := 0, slots := 0, locals := 43 } (tyS cI cC cH) [.ref xo, .int (iI v)] (wS xo xh t ta cI cC cH q) (wS xo xh t ta cI cC cH q') (some (.int (iI (m + 1)))) ∧ CR k q' ∧ Sme q q' ∧ TX q' (m + 1) (i + (if v = 59 then 1 else 0)) (d + (if v = 46 then 1 else 0)) := by
  obtain ⟨m1, m2, m3⟩ := hm
  have hT := h.2.2.2.1
  have hl := hT.1
  have hh := m_X2_type l D xo xh t ta cI cC cH q.1 q.2.1 q.2.2.1 q.2.2.2.1 q.2.2.2.2 v hT hv (by show SS.T q 1 0 < 60; omega)
  have e1 : (m + 1).toNat = m.toNat + 1 := by omega
  have e2 : ((m.toNat : Nat) : Int) = SS.T q 1 0 := by omega
  have hT2 : InvT (upG (upG (SS.T q) 0 (SS.T q 1 0) v) 1 0 (SS.T q 1 0 + 1)) := by
    refine ⟨?_, fun p h0 h1 => ?_⟩
    · show 0 ≤ SS.T q 1 0 + 1 ∧ SS.T q 1 0 + 1 ≤ 60; omega
    · show 0 ≤ upI (SS.T q 0) (SS.T q 1 0) v p ∧ upI (SS.T q 0) (SS.T q 1 0) v p ≤ 126
      unfold upI
      split
      · omega
      · exact hT.2 p h0 h1
  refine ⟨(q.1, q.2.1, SS.F q, upG (upG (SS.T q) 0 (SS.T q 1 0) v) 1 0 (SS.T q 1 0 + 1), SS.H q), ?_, CR_sme h ⟨rfl, rfl, fun _ => rfl⟩ hT2 h.2.2.2.2, ⟨rfl, rfl, fun _ => rfl⟩, ?_, ?_, ?_⟩
  · rw [← m1]; exact hh
  · show SS.T q 1 0 + 1 = m + 1; omega
  · show cntC (upI (SS.T q 0) (SS.T q 1 0) v) 59 (m + 1).toNat = _
    rw [e1, ← e2, cnt_up, m2]
  · show cntC (upI (SS.T q 0) (SS.T q 1 0) v) 46 (m + 1).toNat = _
    rw [e1, ← e2, cnt_up, m3]
/-! the law's own small number: below n -/
def lowZ (v n : Int) : Int := (iI v &&& iI 2147483647).toInt % n
theorem low_and (v : Int) : ∃ z : Int, (0 ≤ z ∧ z < 2147483648) ∧ iI v &&& iI 2147483647 = iI z := by
  obtain ⟨j, hj, e⟩ := pk_andE (iI v) (m := iI 2147483647) 31 (by decide +kernel)
  refine ⟨(j : Int), by omega, ?_⟩
  rw [e, iI_nI (by omega)]
  congr 1
theorem low_bd (v : Int) {n : Int} (hn : 0 < n) : 0 ≤ lowZ v n ∧ lowZ v n < n := ⟨Int.emod_nonneg _ (by omega), Int.emod_lt_of_pos _ hn⟩
set_option maxHeartbeats 4000000 in
theorem m_L_low (l : Launch) (D : va_G) (a n : Int) (hn : 0 < n ∧ n < 2147483648) : MW l D yL_low (wsY yL_low cL_low 2 (some .int)) { frames := 0, cells := 0, slots := 0, locals := 0 } [] [.int (iI a), .int (iI n)] [] [] (some (.int (iI (lowZ a n)))) := by
  refine mw_ofI (cc := cL_low) (maxL := 2) (by decide) rfl (Nat.le_of_ble_eq_true rfl) ?_
  intro p e s m below meth c R A Q args ls hx hb hml hown hts hRf hRl hRc hRs hN hK hP hD hS hA hret hl
  have hq : ∀ w ∈ ALL, w.before args s = true := fun w h => hts w (List.mem_cons_of_mem _ h)
  have hl : lv_has ls 2 [(0, .int (iI a)), (1, .int (iI n))] := hl
  obtain ⟨z, hz, ez⟩ := low_and a
  have ev : lowZ a n = z % n := by unfold lowZ; rw [ez, iI_t (by omega)]
  rw [ev] at hret
  refine lv_iload_n hx hb dL_low_0 rfl (lv_at hl 0 rfl) ?_
  refine z_ldc hx hb 2147483647 (by decide +kernel) hown (hq _ q_340) dL_low_1 ?_
  refine lv_iand hx hb dL_low_3 ?_
  refine z_asB (b := z) ez ?_
  refine lv_iload_n hx hb dL_low_4 rfl (lv_at hl 1 rfl) ?_
  refine z_irem hx hb dL_low_5 (by omega) (by omega) ?_
  exact hret _ _ _ _ dL_low_6 hP hD hS
theorem rd_wrongIn_bad (l : Launch) (D : va_G) (xo xh t : Nat) (ta : Nat → Nat) (cI cC cH : ClassId) {k : Nat} {q : SS} (_h : CR k q) (r : Int) (hr : r = 6) : MW l D yX2_wrongIn (wsY yX2_wrongIn cX2_wrongIn 3 (some .int)) { frames := 4, cells := 0, slots := 0, locals := 99 } (tyS cI cC cH) [.ref xo, .int (iI r)] (wS xo xh t ta cI cC cH q) (wS xo xh t ta cI cC cH q) (some (.int (iI (-1000001)))) := m_X2_wrongIn_bad l D xo xh t ta cI cC cH q.1 q.2.1 q.2.2.1 q.2.2.2.1 q.2.2.2.2 r (by omega) (by omega)
theorem rd_rightFor_bad (l : Launch) (D : va_G) (xo xh t : Nat) (ta : Nat → Nat) (cI cC cH : ClassId) {k : Nat} {q : SS} (_h : CR k q) (r : Int) (hr : r = 6) : MW l D yX2_rightFor (wsY yX2_rightFor cX2_rightFor 3 (some .int)) { frames := 4, cells := 0, slots := 0, locals := 99 } (tyS cI cC cH) [.ref xo, .int (iI r)] (wS xo xh t ta cI cC cH q) (wS xo xh t ta cI cC cH q) (some (.int (iI (-1000001)))) := m_X2_rightFor_bad l D xo xh t ta cI cC cH q.1 q.2.1 q.2.2.1 q.2.2.2.1 q.2.2.2.2 r (by omega) (by omega)
theorem rd_worstN (l : Launch) (D : va_G) (xo xh t : Nat) (ta : Nat → Nat) (cI cC cH : ClassId) {k : Nat} {q : SS} (h : CR k q) (n : Nat) (hn : n < 6) : MW l D yX2_worst (wsY yX2_worst cX2_worst 5 (some .int)) { frames := 4, cells := 0, slots := 0, locals := 94 } (tyS cI cC cH) [.ref xo, .int (iI (n : Int))] (wS xo xh t ta cI cC cH q) (wS xo xh t ta cI cC cH q) (some (.int (iI (wsZ (SS.G q) (n + 1)).2))) := m_X2_worst l D xo xh t ta cI cC cH q.1 q.2.1 q.2.2.1 q.2.2.2.1 q.2.2.2.2 (n : Int) h.1.1 (by omega)
theorem rb_worstN {k : Nat} {q : SS} (_h : CR k q) (n : Nat) (_hn : n < 6) : 0 ≤ (wsZ (SS.G q) (n + 1)).2 ∧ (wsZ (SS.G q) (n + 1)).2 ≤ 5 := (ws_bd (SS.G q) (n + 1)).2
theorem nearC_e (v a b : Int) : nearC v a b = (if (if v < a then a - v else v - a) < (if v < b then b - v else v - b) then (if v < a then a - v else v - a) else (if v < b then b - v else v - b)) := by
  unfold nearC
  omega
