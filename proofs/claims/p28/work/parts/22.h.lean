set_option maxHeartbeats 4000000 in
set_option maxRecDepth 100000 in
theorem m_X0_writeLevel_all (l : Launch) (D : va_G) (g : Nat) (ad : Nat → Nat) (cI : ClassId) (G : Nat → Int → Int) (r c2 v : Int) {B : Int} (hI : InvG B G) (hB : B + 1 ≤ 100000000) (h1 : -2147483648 ≤ r ∧ r < 2147483648) (h2 : -2147483648 ≤ c2 ∧ c2 < 2147483648) (h3 : -2147483648 ≤ v ∧ v < 2147483648)  : MW l D yX0_writeLevel (wsY yX0_writeLevel cX0_writeLevel 5 (some .int)) { frames := 2, cells := 0, slots := 0, locals := 43 } [(cI, .int)] [.ref g, .int (iI r), .int (iI c2), .int (iI v)] (wG g ad cI G) (wG g ad cI (wlG G r c2 v)) (some (.int (iI (wlV G r c2 v)))) := by
  by_cases h : 0 ≤ r ∧ r < 6 ∧ 0 ≤ c2 ∧ c2 < 8 ∧ 0 ≤ v ∧ v < 3
  · rw [show wlV G r c2 v = _ from if_pos h, show wlG G r c2 v = _ from if_pos h]
    exact m_X0_writeLevel l D g ad cI G r c2 v hI hB (by omega) (by omega) (by omega)
  · rw [show wlV G r c2 v = _ from if_neg h, show wlG G r c2 v = _ from if_neg h]
    exact m_X0_writeLevel_bad l D g ad cI G r c2 v h1 h2 h3 (by omega)
set_option maxHeartbeats 4000000 in
set_option maxRecDepth 100000 in
theorem m_X0_writeWord_all (l : Launch) (D : va_G) (g : Nat) (ad : Nat → Nat) (cI : ClassId) (G : Nat → Int → Int) (r w : Int) {B : Int} (hI : InvG B G) (hB : B + 1 ≤ 100000000) (h1 : -2147483648 ≤ r ∧ r < 2147483648) (h2 : -2147483648 ≤ w ∧ w < 2147483648)  : MW l D yX0_writeWord (wsY yX0_writeWord cX0_writeWord 6 (some .int)) { frames := 3, cells := 0, slots := 0, locals := 72 } [(cI, .int)] [.ref g, .int (iI r), .int (iI w)] (wG g ad cI G) (wG g ad cI (wwG G r w)) (some (.int (iI (wwV G r w)))) := by
  by_cases h : 0 ≤ r ∧ r < 6 ∧ 0 ≤ w ∧ w ≤ 6560
  · rw [show wwV G r w = _ from if_pos h, show wwG G r w = _ from if_pos h]
    exact m_X0_writeWord l D g ad cI G r w hI hB (by omega) (by omega)
  · rw [show wwV G r w = _ from if_neg h, show wwG G r w = _ from if_neg h]
    exact m_X0_writeWord_bad l D g ad cI G r w h1 h2 (by omega)
set_option maxHeartbeats 4000000 in
set_option maxRecDepth 100000 in
theorem m_X0_writeAnew_all (l : Launch) (D : va_G) (g : Nat) (ad : Nat → Nat) (cI : ClassId) (G : Nat → Int → Int) (r : Int) {B : Int} (hI : InvG B G) (hB : B + 1 ≤ 100000000) (h1 : -2147483648 ≤ r ∧ r < 2147483648)  : MW l D yX0_writeAnew (wsY yX0_writeAnew cX0_writeAnew 8 (some .int)) { frames := 2, cells := 0, slots := 0, locals := 47 } [(cI, .int)] [.ref g, .int (iI r)] (wG g ad cI G) (wG g ad cI (waG G r)) (some (.int (iI (waV G r)))) := by
  by_cases h : 0 ≤ r ∧ r < 6
  · rw [show waV G r = _ from if_pos h, show waG G r = _ from if_pos h]
    exact m_X0_writeAnew l D g ad cI G r hI hB (by omega)
  · rw [show waV G r = _ from if_neg h, show waG G r = _ from if_neg h]
    exact m_X0_writeAnew_bad l D g ad cI G r h1 (by omega)
set_option maxHeartbeats 4000000 in
set_option maxRecDepth 100000 in
theorem m_X0_askCell_all (l : Launch) (D : va_G) (g : Nat) (ad : Nat → Nat) (cI : ClassId) (G : Nat → Int → Int) (r c2 : Int) {B : Int} (hI : InvG B G) (hB : B + 1 ≤ 100000000) (h1 : -2147483648 ≤ r ∧ r < 2147483648) (h2 : -2147483648 ≤ c2 ∧ c2 < 2147483648)  : MW l D yX0_askCell (wsY yX0_askCell cX0_askCell 5 (some .int)) { frames := 2, cells := 0, slots := 0, locals := 47 } [(cI, .int)] [.ref g, .int (iI r), .int (iI c2)] (wG g ad cI G) (wG g ad cI (acG G r c2)) (some (.int (iI (acV G r c2)))) := by
  by_cases h : 0 ≤ r ∧ r < 6 ∧ 0 ≤ c2 ∧ c2 < 8
  · rw [show acV G r c2 = _ from if_pos h, show acG G r c2 = _ from if_pos h]
    exact m_X0_askCell l D g ad cI G r c2 hI hB (by omega) (by omega)
  · rw [show acV G r c2 = _ from if_neg h, show acG G r c2 = _ from if_neg h]
    exact m_X0_askCell_bad l D g ad cI G r c2 h1 h2 (by omega)
set_option maxHeartbeats 4000000 in
set_option maxRecDepth 100000 in
theorem m_X0_failGuard_all (l : Launch) (D : va_G) (g : Nat) (ad : Nat → Nat) (cI : ClassId) (G : Nat → Int → Int) (r g2 v : Int) {B : Int} (hI : InvG B G) (h1 : -2147483648 ≤ r ∧ r < 2147483648) (h2 : -2147483648 ≤ g2 ∧ g2 < 2147483648) (h3 : -2147483648 ≤ v ∧ v < 2147483648)  : MW l D yX0_failGuard (wsY yX0_failGuard cX0_failGuard 6 (some .int)) { frames := 2, cells := 0, slots := 0, locals := 43 } [(cI, .int)] [.ref g, .int (iI r), .int (iI g2), .int (iI v)] (wG g ad cI G) (wG g ad cI (fgG G r g2 v)) (some (.int (iI (fgV G r g2 v)))) := by
  by_cases h : 0 ≤ r ∧ r < 6 ∧ 0 ≤ g2 ∧ g2 < 3 ∧ 0 ≤ v ∧ v ≤ 999
  · by_cases h4 : G 5 (3 * r + g2) = 0
    · rw [show fgV G r g2 v = _ from (if_pos h).trans (if_pos h4), show fgG G r g2 v = _ from (if_pos h).trans (if_pos h4)]
      exact m_X0_failGuard l D g ad cI G r g2 v hI (by omega) (by omega) (by omega) h4
    · rw [show fgV G r g2 v = _ from (if_pos h).trans (if_neg h4), show fgG G r g2 v = _ from (if_pos h).trans (if_neg h4)]
      exact m_X0_failGuard_no l D g ad cI G r g2 v hI (by omega) (by omega) (by omega) h4
  · rw [show fgV G r g2 v = _ from if_neg h, show fgG G r g2 v = _ from if_neg h]
    exact m_X0_failGuard_bad l D g ad cI G r g2 v h1 h2 h3 (by omega)
set_option maxHeartbeats 4000000 in
set_option maxRecDepth 100000 in
theorem m_X0_mendGuard_all (l : Launch) (D : va_G) (g : Nat) (ad : Nat → Nat) (cI : ClassId) (G : Nat → Int → Int) (r g2 : Int) {B : Int} (hI : InvG B G) (h1 : -2147483648 ≤ r ∧ r < 2147483648) (h2 : -2147483648 ≤ g2 ∧ g2 < 2147483648)  : MW l D yX0_mendGuard (wsY yX0_mendGuard cX0_mendGuard 4 (some .int)) { frames := 2, cells := 0, slots := 0, locals := 43 } [(cI, .int)] [.ref g, .int (iI r), .int (iI g2)] (wG g ad cI G) (wG g ad cI (mgG G r g2)) (some (.int (iI (mgV G r g2)))) := by
  by_cases h : 0 ≤ r ∧ r < 6 ∧ 0 ≤ g2 ∧ g2 < 3
  · by_cases h4 : G 5 (3 * r + g2) = 0
    · rw [show mgV G r g2 = _ from (if_pos h).trans (if_pos h4), show mgG G r g2 = _ from (if_pos h).trans (if_pos h4)]
      exact m_X0_mendGuard_no l D g ad cI G r g2 hI (by omega) (by omega) h4
    · rw [show mgV G r g2 = _ from (if_pos h).trans (if_neg h4), show mgG G r g2 = _ from (if_pos h).trans (if_neg h4)]
      exact m_X0_mendGuard l D g ad cI G r g2 hI (by omega) (by omega) h4
  · rw [show mgV G r g2 = _ from if_neg h, show mgG G r g2 = _ from if_neg h]
    exact m_X0_mendGuard_bad l D g ad cI G r g2 h1 h2 (by omega)
set_option maxHeartbeats 4000000 in
set_option maxRecDepth 100000 in
theorem m_X0_changeRate_all (l : Launch) (D : va_G) (g : Nat) (ad : Nat → Nat) (cI : ClassId) (G : Nat → Int → Int) (r v : Int) {B : Int} (hI : InvG B G) (h1 : -2147483648 ≤ r ∧ r < 2147483648) (h2 : -2147483648 ≤ v ∧ v < 2147483648)  : MW l D yX0_changeRate (wsY yX0_changeRate cX0_changeRate 4 (some .int)) { frames := 1, cells := 0, slots := 0, locals := 22 } [(cI, .int)] [.ref g, .int (iI r), .int (iI v)] (wG g ad cI G) (wG g ad cI (crG G r v)) (some (.int (iI (crV G r v)))) := by
  by_cases h : 0 ≤ r ∧ r < 6 ∧ 1 ≤ v ∧ v ≤ 200
  · rw [show crV G r v = _ from if_pos h, show crG G r v = _ from if_pos h]
    exact m_X0_changeRate l D g ad cI G r v hI (by omega) (by omega)
  · rw [show crV G r v = _ from if_neg h, show crG G r v = _ from if_neg h]
    exact m_X0_changeRate_bad l D g ad cI G r v h1 h2 (by omega)
set_option maxHeartbeats 4000000 in
set_option maxRecDepth 100000 in
theorem m_X0_passDays_all (l : Launch) (D : va_G) (g : Nat) (ad : Nat → Nat) (cI : ClassId) (G : Nat → Int → Int) (n last : Int) {B : Int} (hI : InvG B G) (h1 : -2147483648 ≤ n ∧ n < 2147483648) (h2 : 9999 ≤ last ∧ last ≤ 1000000) (h3 : B + 594 ≤ 100000000)  : MW l D yX0_passDays (wsY yX0_passDays cX0_passDays 6 (some .int)) { frames := 3, cells := 0, slots := 0, locals := 74 } [(cI, .int)] [.ref g, .int (iI n), .int (iI last)] (wG g ad cI G) (wG g ad cI (pdG G n last)) (some (.int (iI (pdV G n last)))) := by
  by_cases h : 1 ≤ n ∧ n ≤ 99
  · by_cases h4 : last - n < G 12 0
    · rw [show pdV G n last = _ from (if_pos h).trans (if_pos h4), show pdG G n last = _ from (if_pos h).trans (if_pos h4)]
      exact m_X0_passDays_late l D g ad cI G n last hI (by omega) (by omega) h4
    · rw [show pdV G n last = _ from (if_pos h).trans (if_neg h4), show pdG G n last = _ from (if_pos h).trans (if_neg h4)]
      exact m_X0_passDays l D g ad cI G n last hI (by omega) (by omega) (by omega) (by omega)
  · rw [show pdV G n last = _ from if_neg h, show pdG G n last = _ from if_neg h]
    exact m_X0_passDays_bad l D g ad cI G n last h1 (by omega) (by omega)
set_option maxHeartbeats 4000000 in
set_option maxRecDepth 100000 in
theorem m_X0_changeSetting_all (l : Launch) (D : va_G) (g : Nat) (ad : Nat → Nat) (cI : ClassId) (G : Nat → Int → Int) (w v : Int) {B : Int} (hI : InvG B G) (h1 : -2147483648 ≤ w ∧ w < 2147483648) (h2 : -2147483648 ≤ v ∧ v < 2147483648)  : MW l D yX0_changeSetting (wsY yX0_changeSetting cX0_changeSetting 4 (some .int)) { frames := 2, cells := 0, slots := 0, locals := 43 } [(cI, .int)] [.ref g, .int (iI w), .int (iI v)] (wG g ad cI G) (wG g ad cI (csG G w v)) (some (.int (iI (csV G w v)))) := by
  by_cases h : 0 ≤ w ∧ w < 3 ∧ badSetZ w v = 0
  · rw [show csV G w v = _ from if_pos h, show csG G w v = _ from if_pos h]
    exact m_X0_changeSetting l D g ad cI G w v hI (by omega) h2 h.2.2
  · rw [show csV G w v = _ from if_neg h, show csG G w v = _ from if_neg h]
    exact m_X0_changeSetting_bad l D g ad cI G w v h1 h2 (by omega)
