/-! a grid: its cells by one function of places: G k p is the array k at p, G 12 0 is today -/
def upG (G : Nat → Int → Int) (k : Nat) (z v : Int) : Nat → Int → Int := fun k' => if k' = k then upI (G k) z v else G k'
abbrev wG (g : Nat) (ad : Nat → Nat) (cI : ClassId) (G : Nat → Int → Int) : va_W := [(g, .inr (0, [.ref (ad 0), .ref (ad 1), .ref (ad 2), .ref (ad 3), .ref (ad 4), .ref (ad 5), .ref (ad 6), .ref (ad 7), .ref (ad 8), .ref (ad 9), .ref (ad 10), .ref (ad 11), .int (iI (G 12 0))])), (ad 0, .inl (cI, 48, .inl (aI (G 0)))), (ad 1, .inl (cI, 48, .inl (aI (G 1)))), (ad 2, .inl (cI, 48, .inl (aI (G 2)))), (ad 3, .inl (cI, 48, .inl (aI (G 3)))), (ad 4, .inl (cI, 18, .inl (aI (G 4)))), (ad 5, .inl (cI, 18, .inl (aI (G 5)))), (ad 6, .inl (cI, 6, .inl (aI (G 6)))), (ad 7, .inl (cI, 6, .inl (aI (G 7)))), (ad 8, .inl (cI, 6, .inl (aI (G 8)))), (ad 9, .inl (cI, 6, .inl (aI (G 9)))), (ad 10, .inl (cI, 9, .inl (aI (G 10)))), (ad 11, .inl (cI, 3, .inl (aI (G 11))))]
theorem wG_set0 (g : Nat) (ad : Nat → Nat) (cI : ClassId) (G : Nat → Int → Int) (z v : Int) : (wG g ad cI G).set 1 (ad 0, .inl (cI, 48, .inl (aI (upI (G 0) z v)))) = wG g ad cI (upG G 0 z v) := rfl
theorem wG_set1 (g : Nat) (ad : Nat → Nat) (cI : ClassId) (G : Nat → Int → Int) (z v : Int) : (wG g ad cI G).set 2 (ad 1, .inl (cI, 48, .inl (aI (upI (G 1) z v)))) = wG g ad cI (upG G 1 z v) := rfl
theorem wG_set2 (g : Nat) (ad : Nat → Nat) (cI : ClassId) (G : Nat → Int → Int) (z v : Int) : (wG g ad cI G).set 3 (ad 2, .inl (cI, 48, .inl (aI (upI (G 2) z v)))) = wG g ad cI (upG G 2 z v) := rfl
theorem wG_set3 (g : Nat) (ad : Nat → Nat) (cI : ClassId) (G : Nat → Int → Int) (z v : Int) : (wG g ad cI G).set 4 (ad 3, .inl (cI, 48, .inl (aI (upI (G 3) z v)))) = wG g ad cI (upG G 3 z v) := rfl
theorem wG_set4 (g : Nat) (ad : Nat → Nat) (cI : ClassId) (G : Nat → Int → Int) (z v : Int) : (wG g ad cI G).set 5 (ad 4, .inl (cI, 18, .inl (aI (upI (G 4) z v)))) = wG g ad cI (upG G 4 z v) := rfl
theorem wG_set5 (g : Nat) (ad : Nat → Nat) (cI : ClassId) (G : Nat → Int → Int) (z v : Int) : (wG g ad cI G).set 6 (ad 5, .inl (cI, 18, .inl (aI (upI (G 5) z v)))) = wG g ad cI (upG G 5 z v) := rfl
theorem wG_set6 (g : Nat) (ad : Nat → Nat) (cI : ClassId) (G : Nat → Int → Int) (z v : Int) : (wG g ad cI G).set 7 (ad 6, .inl (cI, 6, .inl (aI (upI (G 6) z v)))) = wG g ad cI (upG G 6 z v) := rfl
theorem wG_set7 (g : Nat) (ad : Nat → Nat) (cI : ClassId) (G : Nat → Int → Int) (z v : Int) : (wG g ad cI G).set 8 (ad 7, .inl (cI, 6, .inl (aI (upI (G 7) z v)))) = wG g ad cI (upG G 7 z v) := rfl
theorem wG_set8 (g : Nat) (ad : Nat → Nat) (cI : ClassId) (G : Nat → Int → Int) (z v : Int) : (wG g ad cI G).set 9 (ad 8, .inl (cI, 6, .inl (aI (upI (G 8) z v)))) = wG g ad cI (upG G 8 z v) := rfl
theorem wG_set9 (g : Nat) (ad : Nat → Nat) (cI : ClassId) (G : Nat → Int → Int) (z v : Int) : (wG g ad cI G).set 10 (ad 9, .inl (cI, 6, .inl (aI (upI (G 9) z v)))) = wG g ad cI (upG G 9 z v) := rfl
theorem wG_set10 (g : Nat) (ad : Nat → Nat) (cI : ClassId) (G : Nat → Int → Int) (z v : Int) : (wG g ad cI G).set 11 (ad 10, .inl (cI, 9, .inl (aI (upI (G 10) z v)))) = wG g ad cI (upG G 10 z v) := rfl
theorem wG_set11 (g : Nat) (ad : Nat → Nat) (cI : ClassId) (G : Nat → Int → Int) (z v : Int) : (wG g ad cI G).set 12 (ad 11, .inl (cI, 3, .inl (aI (upI (G 11) z v)))) = wG g ad cI (upG G 11 z v) := rfl
/-- what every state of a grid keeps; B bounds what is counted -/
def InvG (B : Int) (G : Nat → Int → Int) : Prop := (0 ≤ B ∧ B ≤ 100000000) ∧ (∀ p : Int, 0 ≤ p → p < 48 → 0 ≤ G 0 p ∧ G 0 p ≤ 2) ∧ (∀ p : Int, 0 ≤ p → p < 48 → 0 ≤ G 1 p ∧ G 1 p ≤ 999) ∧ (∀ p : Int, 0 ≤ p → p < 48 → 0 ≤ G 2 p ∧ G 2 p ≤ B) ∧ (∀ p : Int, 0 ≤ p → p < 48 → 0 ≤ G 3 p ∧ G 3 p ≤ G 12 0) ∧ (∀ p : Int, 0 ≤ p → p < 18 → 0 ≤ G 4 p ∧ G 4 p ≤ 999) ∧ (∀ p : Int, 0 ≤ p → p < 18 → 0 ≤ G 5 p ∧ G 5 p ≤ 1) ∧ (∀ p : Int, 0 ≤ p → p < 6 → 1 ≤ G 6 p ∧ G 6 p ≤ 200) ∧ (∀ p : Int, 0 ≤ p → p < 6 → 0 ≤ G 7 p ∧ G 7 p ≤ G 12 0) ∧ (∀ p : Int, 0 ≤ p → p < 6 → 0 ≤ G 8 p ∧ G 8 p ≤ 8 * B) ∧ (∀ p : Int, 0 ≤ p → p < 6 → 0 ≤ G 9 p ∧ G 9 p ≤ B) ∧ (∀ p : Int, 0 ≤ p → p < 9 → 0 ≤ G 10 p ∧ G 10 p ≤ B) ∧ (300 ≤ G 11 0 ∧ G 11 0 ≤ 700) ∧ (1 ≤ G 11 1 ∧ G 11 1 ≤ 300) ∧ (0 ≤ G 11 2 ∧ G 11 2 ≤ 99) ∧ (0 ≤ G 12 0 ∧ G 12 0 ≤ 10000000)
theorem invG_B {B : Int} {G : Nat → Int → Int} (h : InvG B G) : 0 ≤ B ∧ B ≤ 100000000 := h.1
theorem invG_0 {B : Int} {G : Nat → Int → Int} (h : InvG B G) (p : Int) (h0 : 0 ≤ p) (h1 : p < 48) : 0 ≤ G 0 p ∧ G 0 p ≤ 2 := h.2.1 p h0 h1
theorem invG_1 {B : Int} {G : Nat → Int → Int} (h : InvG B G) (p : Int) (h0 : 0 ≤ p) (h1 : p < 48) : 0 ≤ G 1 p ∧ G 1 p ≤ 999 := h.2.2.1 p h0 h1
theorem invG_2 {B : Int} {G : Nat → Int → Int} (h : InvG B G) (p : Int) (h0 : 0 ≤ p) (h1 : p < 48) : 0 ≤ G 2 p ∧ G 2 p ≤ B := h.2.2.2.1 p h0 h1
theorem invG_3 {B : Int} {G : Nat → Int → Int} (h : InvG B G) (p : Int) (h0 : 0 ≤ p) (h1 : p < 48) : 0 ≤ G 3 p ∧ G 3 p ≤ G 12 0 := h.2.2.2.2.1 p h0 h1
theorem invG_4 {B : Int} {G : Nat → Int → Int} (h : InvG B G) (p : Int) (h0 : 0 ≤ p) (h1 : p < 18) : 0 ≤ G 4 p ∧ G 4 p ≤ 999 := h.2.2.2.2.2.1 p h0 h1
theorem invG_5 {B : Int} {G : Nat → Int → Int} (h : InvG B G) (p : Int) (h0 : 0 ≤ p) (h1 : p < 18) : 0 ≤ G 5 p ∧ G 5 p ≤ 1 := h.2.2.2.2.2.2.1 p h0 h1
theorem invG_6 {B : Int} {G : Nat → Int → Int} (h : InvG B G) (p : Int) (h0 : 0 ≤ p) (h1 : p < 6) : 1 ≤ G 6 p ∧ G 6 p ≤ 200 := h.2.2.2.2.2.2.2.1 p h0 h1
theorem invG_7 {B : Int} {G : Nat → Int → Int} (h : InvG B G) (p : Int) (h0 : 0 ≤ p) (h1 : p < 6) : 0 ≤ G 7 p ∧ G 7 p ≤ G 12 0 := h.2.2.2.2.2.2.2.2.1 p h0 h1
theorem invG_8 {B : Int} {G : Nat → Int → Int} (h : InvG B G) (p : Int) (h0 : 0 ≤ p) (h1 : p < 6) : 0 ≤ G 8 p ∧ G 8 p ≤ 8 * B := h.2.2.2.2.2.2.2.2.2.1 p h0 h1
theorem invG_9 {B : Int} {G : Nat → Int → Int} (h : InvG B G) (p : Int) (h0 : 0 ≤ p) (h1 : p < 6) : 0 ≤ G 9 p ∧ G 9 p ≤ B := h.2.2.2.2.2.2.2.2.2.2.1 p h0 h1
theorem invG_10 {B : Int} {G : Nat → Int → Int} (h : InvG B G) (p : Int) (h0 : 0 ≤ p) (h1 : p < 9) : 0 ≤ G 10 p ∧ G 10 p ≤ B := h.2.2.2.2.2.2.2.2.2.2.2.1 p h0 h1
theorem invG_s0 {B : Int} {G : Nat → Int → Int} (h : InvG B G) : 300 ≤ G 11 0 ∧ G 11 0 ≤ 700 := h.2.2.2.2.2.2.2.2.2.2.2.2.1
theorem invG_s1 {B : Int} {G : Nat → Int → Int} (h : InvG B G) : 1 ≤ G 11 1 ∧ G 11 1 ≤ 300 := h.2.2.2.2.2.2.2.2.2.2.2.2.2.1
theorem invG_s2 {B : Int} {G : Nat → Int → Int} (h : InvG B G) : 0 ≤ G 11 2 ∧ G 11 2 ≤ 99 := h.2.2.2.2.2.2.2.2.2.2.2.2.2.2.1
theorem invG_d {B : Int} {G : Nat → Int → Int} (h : InvG B G) : 0 ≤ G 12 0 ∧ G 12 0 ≤ 10000000 := h.2.2.2.2.2.2.2.2.2.2.2.2.2.2.2
theorem invG_11 {B : Int} {G : Nat → Int → Int} (h : InvG B G) (p : Int) (h0 : 0 ≤ p) (h1 : p < 3) : 0 ≤ G 11 p ∧ G 11 p ≤ 700 := by
  have h2 := invG_s0 h
  have h3 := invG_s1 h
  have h4 := invG_s2 h
  rcases (show p = 0 ∨ p = 1 ∨ p = 2 by omega) with rfl | rfl | rfl <;> omega
/-! values -/
def sumZ : Nat → (Int → Int) → Int
  | 0, _ => 0
  | n + 1, f => sumZ n f + f n
def hornZ (f : Int → Int) : Nat → Int
  | 0 => 0
  | n + 1 => 3 * hornZ f n + f (7 - n)
def outZ (n lo hi : Int) : Int := if n < lo ∨ hi < n then 1 else 0
def aimZ (v : Int) : Int := 100 + 400 * v
def ownZ (G : Nat → Int → Int) (r w : Int) : Int := (G 4 (3 * r + w) + G 4 (3 * r + w + 1)) / 2
def rightZ (G : Nat → Int → Int) (r : Int) : Int := if r < 0 ∨ 6 ≤ r then 0 else if G 4 (3 * r + 1) - G 4 (3 * r) < G 11 1 then 0 else if G 4 (3 * r + 2) - G 4 (3 * r + 1) < G 11 1 then 0 else 1
def sourceZ (G : Nat → Int → Int) (r : Int) : Int := if rightZ G r ≠ 0 then 0 else if rightZ G (r - 1) ≠ 0 ∨ rightZ G (r + 1) ≠ 0 then 1 else 2
def thrZ (G : Nat → Int → Int) (r w : Int) : Int := if rightZ G r ≠ 0 then ownZ G r w else if rightZ G (r - 1) ≠ 0 ∧ rightZ G (r + 1) ≠ 0 then (ownZ G (r - 1) w + ownZ G (r + 1) w) / 2 else if rightZ G (r - 1) ≠ 0 then ownZ G (r - 1) w else if rightZ G (r + 1) ≠ 0 then ownZ G (r + 1) w else if w = 0 then 300 else 700
def tellZ (v lo up : Int) : Int := if v < lo then 0 else if up ≤ v then 2 else 1
def wrongByZ (G : Nat → Int → Int) (r lo up : Int) (n : Nat) : Int := sumZ n (fun c => if tellZ (G 1 (8 * r + c)) lo up = G 0 (8 * r + c) then 0 else 1)
def wrongZ (G : Nat → Int → Int) (r : Int) : Int := wrongByZ G r (thrZ G r 0) (thrZ G r 1) 8
def toldZ (G : Nat → Int → Int) (r c : Int) : Int := tellZ (G 1 (8 * r + c)) (thrZ G r 0) (thrZ G r 1)
def toldWordZ (G : Nat → Int → Int) (r : Int) : Int := hornZ (fun c => toldZ G r c) 8
def levelWordZ (G : Nat → Int → Int) (r : Int) : Int := hornZ (fun c => G 0 (8 * r + c)) 8
def putZ (G : Nat → Int → Int) (p v : Int) : Nat → Int → Int := upG (upG (upG (upG G 0 p v) 1 p (aimZ v + ((37 * p + 11 * G 2 p) % 21 - 10))) 2 p (G 2 p + 1)) 3 p (G 12 0)
def guardsZ (G : Nat → Int → Int) (r : Int) : Nat → (Nat → Int → Int)
  | 0 => G
  | n + 1 => if guardsZ G r n 5 (3 * r + n) = 0 then upG (guardsZ G r n) 4 (3 * r + n) (aimZ n) else guardsZ G r n
def writeGuardsZ (G : Nat → Int → Int) (r : Int) : Nat → Int → Int := upG (guardsZ G r 3) 7 r (guardsZ G r 3 12 0)
def ageZ (G : Nat → Int → Int) (r : Int) : Int := G 12 0 - G 7 r
def nearZ (m v rate : Int) : Int := if v < m then v + (if 1 < (m - v) * rate / 1000 then (m - v) * rate / 1000 else 1) else if m < v then v - (if 1 < (v - m) * rate / 1000 then (v - m) * rate / 1000 else 1) else v
theorem tellZ_01 (v lo up : Int) : 0 ≤ tellZ v lo up ∧ tellZ v lo up ≤ 2 := by unfold tellZ; omega
theorem outZ_01 (n lo hi : Int) : 0 ≤ outZ n lo hi ∧ outZ n lo hi ≤ 1 := by unfold outZ; omega
theorem rightZ_01 (G : Nat → Int → Int) (r : Int) : rightZ G r = 0 ∨ rightZ G r = 1 := by unfold rightZ; omega
theorem rightZ_in {G : Nat → Int → Int} {r : Int} (h : rightZ G r ≠ 0) : 0 ≤ r ∧ r < 6 := by unfold rightZ at h; omega
theorem ownZ_bd {B : Int} {G : Nat → Int → Int} (hI : InvG B G) (r w : Int) (h1 : 0 ≤ r ∧ r < 6) (h2 : 0 ≤ w ∧ w < 2) : 0 ≤ ownZ G r w ∧ ownZ G r w ≤ 999 := by
  have a1 := invG_4 hI (3 * r + w) (by omega) (by omega)
  have a2 := invG_4 hI (3 * r + w + 1) (by omega) (by omega)
  unfold ownZ
  omega
theorem thrZ_bd {B : Int} {G : Nat → Int → Int} (hI : InvG B G) (r w : Int) (h1 : 0 ≤ r ∧ r < 6) (h2 : 0 ≤ w ∧ w < 2) : 0 ≤ thrZ G r w ∧ thrZ G r w ≤ 999 := by
  unfold thrZ
  by_cases c1 : rightZ G r ≠ 0
  · rw [if_pos c1]; exact ownZ_bd hI r w h1 h2
  · rw [if_neg c1]
    by_cases c2 : rightZ G (r - 1) ≠ 0
    · have a1 := ownZ_bd hI (r - 1) w (rightZ_in c2) h2
      by_cases c3 : rightZ G (r + 1) ≠ 0
      · have a2 := ownZ_bd hI (r + 1) w (rightZ_in c3) h2
        rw [if_pos ⟨c2, c3⟩]; omega
      · rw [if_neg (fun q => c3 q.2), if_pos c2]; exact a1
    · rw [if_neg (fun q => c2 q.1), if_neg c2]
      by_cases c3 : rightZ G (r + 1) ≠ 0
      · rw [if_pos c3]; exact ownZ_bd hI (r + 1) w (rightZ_in c3) h2
      · rw [if_neg c3]; omega
theorem sumZ_bd {f : Int → Int} {M : Int} (h : ∀ c, 0 ≤ f c ∧ f c ≤ M) : ∀ n : Nat, 0 ≤ sumZ n f ∧ sumZ n f ≤ M * n := by
  intro n
  induction n with
  | zero => simp [sumZ]
  | succ n ih =>
    have h1 := h n
    have e : M * ((n + 1 : Nat) : Int) = M * n + M := by rw [Int.natCast_add, Int.mul_add]; simp
    rw [e]
    show 0 ≤ sumZ n f + f n ∧ sumZ n f + f n ≤ M * n + M
    omega
theorem wrongByZ_bd (G : Nat → Int → Int) (r lo up : Int) (n : Nat) : 0 ≤ wrongByZ G r lo up n ∧ wrongByZ G r lo up n ≤ n := by
  have h := sumZ_bd (f := fun c => if tellZ (G 1 (8 * r + c)) lo up = G 0 (8 * r + c) then 0 else 1) (M := 1) (fun c => by
    show 0 ≤ (if tellZ (G 1 (8 * r + c)) lo up = G 0 (8 * r + c) then (0 : Int) else 1) ∧ (if tellZ (G 1 (8 * r + c)) lo up = G 0 (8 * r + c) then (0 : Int) else 1) ≤ 1
    omega) n
  unfold wrongByZ
  omega
theorem wrongZ_bd (G : Nat → Int → Int) (r : Int) : 0 ≤ wrongZ G r ∧ wrongZ G r ≤ 8 := wrongByZ_bd G r _ _ 8
theorem hornZ_bd {f : Int → Int} (h : ∀ c, 0 ≤ c → c < 8 → 0 ≤ f c ∧ f c ≤ 2) : ∀ n : Nat, n ≤ 8 → 0 ≤ hornZ f n ∧ hornZ f n < 3 ^ n := by
  intro n
  induction n with
  | zero => intro _; simp [hornZ]
  | succ n ih =>
    intro hn
    have h1 := h (7 - n) (by omega) (by omega)
    have h2 := ih (by omega)
    have e : (3 : Int) ^ (n + 1) = 3 * 3 ^ n := by rw [Int.pow_succ, Int.mul_comm]
    rw [e]
    show 0 ≤ 3 * hornZ f n + f (7 - n) ∧ 3 * hornZ f n + f (7 - n) < 3 * 3 ^ n
    omega
theorem narrow_z01 {z : Int} (h : z = 0 ∨ z = 1) : narrow .boolean (.int (iI z)) = .int (iI z) := by
  rcases h with rfl | rfl <;> rfl
