/-! what the steps of a grid keep -/
theorem invU {F : Int → Int} {z v p : Int} (P : Int → Prop) (hv : P v) (hp : P (F p)) : P (upI F z v p) := by
  unfold upI
  by_cases h : p = z
  · rw [if_pos h]; exact hv
  · rw [if_neg h]; exact hp
theorem invG_up0 {B : Int} {G : Nat → Int → Int} (h : InvG B G) (z : Int) {v : Int} (hv : 0 ≤ v ∧ v ≤ 2) : InvG B (upG G 0 z v) := ⟨h.1, (fun p h0 h1 => invU (fun x => 0 ≤ x ∧ x ≤ 2) hv (invG_0 h p h0 h1)), h.2.2.1, h.2.2.2.1, h.2.2.2.2.1, h.2.2.2.2.2.1, h.2.2.2.2.2.2.1, h.2.2.2.2.2.2.2.1, h.2.2.2.2.2.2.2.2.1, h.2.2.2.2.2.2.2.2.2.1, h.2.2.2.2.2.2.2.2.2.2.1, h.2.2.2.2.2.2.2.2.2.2.2.1, h.2.2.2.2.2.2.2.2.2.2.2.2.1, h.2.2.2.2.2.2.2.2.2.2.2.2.2.1, h.2.2.2.2.2.2.2.2.2.2.2.2.2.2.1, h.2.2.2.2.2.2.2.2.2.2.2.2.2.2.2⟩
theorem invG_up1 {B : Int} {G : Nat → Int → Int} (h : InvG B G) (z : Int) {v : Int} (hv : 0 ≤ v ∧ v ≤ 999) : InvG B (upG G 1 z v) := ⟨h.1, h.2.1, (fun p h0 h1 => invU (fun x => 0 ≤ x ∧ x ≤ 999) hv (invG_1 h p h0 h1)), h.2.2.2.1, h.2.2.2.2.1, h.2.2.2.2.2.1, h.2.2.2.2.2.2.1, h.2.2.2.2.2.2.2.1, h.2.2.2.2.2.2.2.2.1, h.2.2.2.2.2.2.2.2.2.1, h.2.2.2.2.2.2.2.2.2.2.1, h.2.2.2.2.2.2.2.2.2.2.2.1, h.2.2.2.2.2.2.2.2.2.2.2.2.1, h.2.2.2.2.2.2.2.2.2.2.2.2.2.1, h.2.2.2.2.2.2.2.2.2.2.2.2.2.2.1, h.2.2.2.2.2.2.2.2.2.2.2.2.2.2.2⟩
theorem invG_up2 {B : Int} {G : Nat → Int → Int} (h : InvG B G) (z : Int) {v : Int} (hv : 0 ≤ v ∧ v ≤ B) : InvG B (upG G 2 z v) := ⟨h.1, h.2.1, h.2.2.1, (fun p h0 h1 => invU (fun x => 0 ≤ x ∧ x ≤ B) hv (invG_2 h p h0 h1)), h.2.2.2.2.1, h.2.2.2.2.2.1, h.2.2.2.2.2.2.1, h.2.2.2.2.2.2.2.1, h.2.2.2.2.2.2.2.2.1, h.2.2.2.2.2.2.2.2.2.1, h.2.2.2.2.2.2.2.2.2.2.1, h.2.2.2.2.2.2.2.2.2.2.2.1, h.2.2.2.2.2.2.2.2.2.2.2.2.1, h.2.2.2.2.2.2.2.2.2.2.2.2.2.1, h.2.2.2.2.2.2.2.2.2.2.2.2.2.2.1, h.2.2.2.2.2.2.2.2.2.2.2.2.2.2.2⟩
theorem invG_up3 {B : Int} {G : Nat → Int → Int} (h : InvG B G) (z : Int) {v : Int} (hv : 0 ≤ v ∧ v ≤ G 12 0) : InvG B (upG G 3 z v) := ⟨h.1, h.2.1, h.2.2.1, h.2.2.2.1, (fun p h0 h1 => invU (fun x => 0 ≤ x ∧ x ≤ G 12 0) hv (invG_3 h p h0 h1)), h.2.2.2.2.2.1, h.2.2.2.2.2.2.1, h.2.2.2.2.2.2.2.1, h.2.2.2.2.2.2.2.2.1, h.2.2.2.2.2.2.2.2.2.1, h.2.2.2.2.2.2.2.2.2.2.1, h.2.2.2.2.2.2.2.2.2.2.2.1, h.2.2.2.2.2.2.2.2.2.2.2.2.1, h.2.2.2.2.2.2.2.2.2.2.2.2.2.1, h.2.2.2.2.2.2.2.2.2.2.2.2.2.2.1, h.2.2.2.2.2.2.2.2.2.2.2.2.2.2.2⟩
theorem invG_up4 {B : Int} {G : Nat → Int → Int} (h : InvG B G) (z : Int) {v : Int} (hv : 0 ≤ v ∧ v ≤ 999) : InvG B (upG G 4 z v) := ⟨h.1, h.2.1, h.2.2.1, h.2.2.2.1, h.2.2.2.2.1, (fun p h0 h1 => invU (fun x => 0 ≤ x ∧ x ≤ 999) hv (invG_4 h p h0 h1)), h.2.2.2.2.2.2.1, h.2.2.2.2.2.2.2.1, h.2.2.2.2.2.2.2.2.1, h.2.2.2.2.2.2.2.2.2.1, h.2.2.2.2.2.2.2.2.2.2.1, h.2.2.2.2.2.2.2.2.2.2.2.1, h.2.2.2.2.2.2.2.2.2.2.2.2.1, h.2.2.2.2.2.2.2.2.2.2.2.2.2.1, h.2.2.2.2.2.2.2.2.2.2.2.2.2.2.1, h.2.2.2.2.2.2.2.2.2.2.2.2.2.2.2⟩
theorem invG_up5 {B : Int} {G : Nat → Int → Int} (h : InvG B G) (z : Int) {v : Int} (hv : 0 ≤ v ∧ v ≤ 1) : InvG B (upG G 5 z v) := ⟨h.1, h.2.1, h.2.2.1, h.2.2.2.1, h.2.2.2.2.1, h.2.2.2.2.2.1, (fun p h0 h1 => invU (fun x => 0 ≤ x ∧ x ≤ 1) hv (invG_5 h p h0 h1)), h.2.2.2.2.2.2.2.1, h.2.2.2.2.2.2.2.2.1, h.2.2.2.2.2.2.2.2.2.1, h.2.2.2.2.2.2.2.2.2.2.1, h.2.2.2.2.2.2.2.2.2.2.2.1, h.2.2.2.2.2.2.2.2.2.2.2.2.1, h.2.2.2.2.2.2.2.2.2.2.2.2.2.1, h.2.2.2.2.2.2.2.2.2.2.2.2.2.2.1, h.2.2.2.2.2.2.2.2.2.2.2.2.2.2.2⟩
theorem invG_up6 {B : Int} {G : Nat → Int → Int} (h : InvG B G) (z : Int) {v : Int} (hv : 1 ≤ v ∧ v ≤ 200) : InvG B (upG G 6 z v) := ⟨h.1, h.2.1, h.2.2.1, h.2.2.2.1, h.2.2.2.2.1, h.2.2.2.2.2.1, h.2.2.2.2.2.2.1, (fun p h0 h1 => invU (fun x => 1 ≤ x ∧ x ≤ 200) hv (invG_6 h p h0 h1)), h.2.2.2.2.2.2.2.2.1, h.2.2.2.2.2.2.2.2.2.1, h.2.2.2.2.2.2.2.2.2.2.1, h.2.2.2.2.2.2.2.2.2.2.2.1, h.2.2.2.2.2.2.2.2.2.2.2.2.1, h.2.2.2.2.2.2.2.2.2.2.2.2.2.1, h.2.2.2.2.2.2.2.2.2.2.2.2.2.2.1, h.2.2.2.2.2.2.2.2.2.2.2.2.2.2.2⟩
theorem invG_up7 {B : Int} {G : Nat → Int → Int} (h : InvG B G) (z : Int) {v : Int} (hv : 0 ≤ v ∧ v ≤ G 12 0) : InvG B (upG G 7 z v) := ⟨h.1, h.2.1, h.2.2.1, h.2.2.2.1, h.2.2.2.2.1, h.2.2.2.2.2.1, h.2.2.2.2.2.2.1, h.2.2.2.2.2.2.2.1, (fun p h0 h1 => invU (fun x => 0 ≤ x ∧ x ≤ G 12 0) hv (invG_7 h p h0 h1)), h.2.2.2.2.2.2.2.2.2.1, h.2.2.2.2.2.2.2.2.2.2.1, h.2.2.2.2.2.2.2.2.2.2.2.1, h.2.2.2.2.2.2.2.2.2.2.2.2.1, h.2.2.2.2.2.2.2.2.2.2.2.2.2.1, h.2.2.2.2.2.2.2.2.2.2.2.2.2.2.1, h.2.2.2.2.2.2.2.2.2.2.2.2.2.2.2⟩
theorem invG_up8 {B : Int} {G : Nat → Int → Int} (h : InvG B G) (z : Int) {v : Int} (hv : 0 ≤ v ∧ v ≤ 8 * B) : InvG B (upG G 8 z v) := ⟨h.1, h.2.1, h.2.2.1, h.2.2.2.1, h.2.2.2.2.1, h.2.2.2.2.2.1, h.2.2.2.2.2.2.1, h.2.2.2.2.2.2.2.1, h.2.2.2.2.2.2.2.2.1, (fun p h0 h1 => invU (fun x => 0 ≤ x ∧ x ≤ 8 * B) hv (invG_8 h p h0 h1)), h.2.2.2.2.2.2.2.2.2.2.1, h.2.2.2.2.2.2.2.2.2.2.2.1, h.2.2.2.2.2.2.2.2.2.2.2.2.1, h.2.2.2.2.2.2.2.2.2.2.2.2.2.1, h.2.2.2.2.2.2.2.2.2.2.2.2.2.2.1, h.2.2.2.2.2.2.2.2.2.2.2.2.2.2.2⟩
theorem invG_up9 {B : Int} {G : Nat → Int → Int} (h : InvG B G) (z : Int) {v : Int} (hv : 0 ≤ v ∧ v ≤ B) : InvG B (upG G 9 z v) := ⟨h.1, h.2.1, h.2.2.1, h.2.2.2.1, h.2.2.2.2.1, h.2.2.2.2.2.1, h.2.2.2.2.2.2.1, h.2.2.2.2.2.2.2.1, h.2.2.2.2.2.2.2.2.1, h.2.2.2.2.2.2.2.2.2.1, (fun p h0 h1 => invU (fun x => 0 ≤ x ∧ x ≤ B) hv (invG_9 h p h0 h1)), h.2.2.2.2.2.2.2.2.2.2.2.1, h.2.2.2.2.2.2.2.2.2.2.2.2.1, h.2.2.2.2.2.2.2.2.2.2.2.2.2.1, h.2.2.2.2.2.2.2.2.2.2.2.2.2.2.1, h.2.2.2.2.2.2.2.2.2.2.2.2.2.2.2⟩
theorem invG_up10 {B : Int} {G : Nat → Int → Int} (h : InvG B G) (z : Int) {v : Int} (hv : 0 ≤ v ∧ v ≤ B) : InvG B (upG G 10 z v) := ⟨h.1, h.2.1, h.2.2.1, h.2.2.2.1, h.2.2.2.2.1, h.2.2.2.2.2.1, h.2.2.2.2.2.2.1, h.2.2.2.2.2.2.2.1, h.2.2.2.2.2.2.2.2.1, h.2.2.2.2.2.2.2.2.2.1, h.2.2.2.2.2.2.2.2.2.2.1, (fun p h0 h1 => invU (fun x => 0 ≤ x ∧ x ≤ B) hv (invG_10 h p h0 h1)), h.2.2.2.2.2.2.2.2.2.2.2.2.1, h.2.2.2.2.2.2.2.2.2.2.2.2.2.1, h.2.2.2.2.2.2.2.2.2.2.2.2.2.2.1, h.2.2.2.2.2.2.2.2.2.2.2.2.2.2.2⟩
theorem invG_up12 {B : Int} {G : Nat → Int → Int} (h : InvG B G) {v : Int} (hv : G 12 0 ≤ v ∧ v ≤ 10000000) : InvG B (upG G 12 0 v) := ⟨h.1, h.2.1, h.2.2.1, h.2.2.2.1, (fun p h0 h1 => by have h2 := invG_3 h p h0 h1; exact ⟨h2.1, Int.le_trans h2.2 hv.1⟩), h.2.2.2.2.2.1, h.2.2.2.2.2.2.1, h.2.2.2.2.2.2.2.1, (fun p h0 h1 => by have h2 := invG_7 h p h0 h1; exact ⟨h2.1, Int.le_trans h2.2 hv.1⟩), h.2.2.2.2.2.2.2.2.2.1, h.2.2.2.2.2.2.2.2.2.2.1, h.2.2.2.2.2.2.2.2.2.2.2.1, h.2.2.2.2.2.2.2.2.2.2.2.2.1, h.2.2.2.2.2.2.2.2.2.2.2.2.2.1, h.2.2.2.2.2.2.2.2.2.2.2.2.2.2.1, ⟨Int.le_trans (invG_d h).1 hv.1, hv.2⟩⟩
theorem invG_set0 {B : Int} {G : Nat → Int → Int} (h : InvG B G) {v : Int} (hv : 300 ≤ v ∧ v ≤ 700) : InvG B (upG G 11 0 v) := ⟨h.1, h.2.1, h.2.2.1, h.2.2.2.1, h.2.2.2.2.1, h.2.2.2.2.2.1, h.2.2.2.2.2.2.1, h.2.2.2.2.2.2.2.1, h.2.2.2.2.2.2.2.2.1, h.2.2.2.2.2.2.2.2.2.1, h.2.2.2.2.2.2.2.2.2.2.1, h.2.2.2.2.2.2.2.2.2.2.2.1, hv, h.2.2.2.2.2.2.2.2.2.2.2.2.2.1, h.2.2.2.2.2.2.2.2.2.2.2.2.2.2.1, h.2.2.2.2.2.2.2.2.2.2.2.2.2.2.2⟩
theorem invG_set1 {B : Int} {G : Nat → Int → Int} (h : InvG B G) {v : Int} (hv : 1 ≤ v ∧ v ≤ 300) : InvG B (upG G 11 1 v) := ⟨h.1, h.2.1, h.2.2.1, h.2.2.2.1, h.2.2.2.2.1, h.2.2.2.2.2.1, h.2.2.2.2.2.2.1, h.2.2.2.2.2.2.2.1, h.2.2.2.2.2.2.2.2.1, h.2.2.2.2.2.2.2.2.2.1, h.2.2.2.2.2.2.2.2.2.2.1, h.2.2.2.2.2.2.2.2.2.2.2.1, h.2.2.2.2.2.2.2.2.2.2.2.2.1, hv, h.2.2.2.2.2.2.2.2.2.2.2.2.2.2.1, h.2.2.2.2.2.2.2.2.2.2.2.2.2.2.2⟩
theorem invG_set2 {B : Int} {G : Nat → Int → Int} (h : InvG B G) {v : Int} (hv : 0 ≤ v ∧ v ≤ 99) : InvG B (upG G 11 2 v) := ⟨h.1, h.2.1, h.2.2.1, h.2.2.2.1, h.2.2.2.2.1, h.2.2.2.2.2.1, h.2.2.2.2.2.2.1, h.2.2.2.2.2.2.2.1, h.2.2.2.2.2.2.2.2.1, h.2.2.2.2.2.2.2.2.2.1, h.2.2.2.2.2.2.2.2.2.2.1, h.2.2.2.2.2.2.2.2.2.2.2.1, h.2.2.2.2.2.2.2.2.2.2.2.2.1, h.2.2.2.2.2.2.2.2.2.2.2.2.2.1, hv, h.2.2.2.2.2.2.2.2.2.2.2.2.2.2.2⟩
theorem invG_mono {B B' : Int} {G : Nat → Int → Int} (h : InvG B G) (hb : B ≤ B') (hb2 : B' ≤ 100000000) : InvG B' G := ⟨⟨Int.le_trans (invG_B h).1 hb, hb2⟩, h.2.1, h.2.2.1, (fun p h0 h1 => by have h2 := invG_2 h p h0 h1; exact ⟨h2.1, by omega⟩), h.2.2.2.2.1, h.2.2.2.2.2.1, h.2.2.2.2.2.2.1, h.2.2.2.2.2.2.2.1, h.2.2.2.2.2.2.2.2.1, (fun p h0 h1 => by have h2 := invG_8 h p h0 h1; exact ⟨h2.1, by omega⟩), (fun p h0 h1 => by have h2 := invG_9 h p h0 h1; exact ⟨h2.1, by omega⟩), (fun p h0 h1 => by have h2 := invG_10 h p h0 h1; exact ⟨h2.1, by omega⟩), h.2.2.2.2.2.2.2.2.2.2.2.2.1, h.2.2.2.2.2.2.2.2.2.2.2.2.2.1, h.2.2.2.2.2.2.2.2.2.2.2.2.2.2.1, h.2.2.2.2.2.2.2.2.2.2.2.2.2.2.2⟩
theorem aim_bd {v e : Int} (hv : 0 ≤ v ∧ v ≤ 2) (he : 0 ≤ e) : 0 ≤ aimZ v + (e % 21 - 10) ∧ aimZ v + (e % 21 - 10) ≤ 999 := by
  unfold aimZ; omega
theorem inv_put {B : Int} {G : Nat → Int → Int} (h : InvG B G) {p v : Int} (hp : 0 ≤ p ∧ p < 48) (hv : 0 ≤ v ∧ v ≤ 2) (ht : G 2 p + 1 ≤ B) : InvG B (putZ G p v) := by
  have h2 := invG_2 h p hp.1 hp.2
  have h3 := invG_d h
  unfold putZ
  refine invG_up3 (invG_up2 (invG_up1 (invG_up0 h p hv) p (aim_bd hv (by omega))) p ⟨by omega, ht⟩) p ⟨h3.1, Int.le_refl _⟩
theorem put_ne {G : Nat → Int → Int} {p v q : Int} (k : Nat) (h : q ≠ p) : putZ G p v k q = G k q := by
  unfold putZ upG
  by_cases h3 : k = 3
  · subst h3; rw [if_pos rfl]; rw [upI_n h]; rfl
  · rw [if_neg h3]
    by_cases h2 : k = 2
    · subst h2; rw [if_pos rfl, upI_n h]; rfl
    · rw [if_neg h2]
      by_cases h1 : k = 1
      · subst h1; rw [if_pos rfl, upI_n h]; rfl
      · rw [if_neg h1]
        by_cases h0 : k = 0
        · subst h0; rw [if_pos rfl, upI_n h]
        · rw [if_neg h0]
theorem put_k {G : Nat → Int → Int} {p v : Int} (k : Nat) (h : 4 ≤ k) : putZ G p v k = G k := by
  unfold putZ upG
  rw [if_neg (by omega), if_neg (by omega), if_neg (by omega), if_neg (by omega)]
theorem put_2 (G : Nat → Int → Int) (p v : Int) : putZ G p v 2 p = G 2 p + 1 := upI_s _ _ _
theorem put_1 (G : Nat → Int → Int) (p v : Int) : putZ G p v 1 p = aimZ v + ((37 * p + 11 * G 2 p) % 21 - 10) := upI_s _ _ _
theorem put_0 (G : Nat → Int → Int) (p v : Int) : putZ G p v 0 p = v := upI_s _ _ _
theorem put_3 (G : Nat → Int → Int) (p v : Int) : putZ G p v 3 p = G 12 0 := upI_s _ _ _
/-! the guards of a row -/
theorem guards_k (G : Nat → Int → Int) (r : Int) (k : Nat) (h : k ≠ 4) : ∀ n : Nat, guardsZ G r n k = G k := by
  intro n
  induction n with
  | zero => rfl
  | succ n ih =>
    show (if guardsZ G r n 5 (3 * r + n) = 0 then upG (guardsZ G r n) 4 (3 * r + n) (aimZ n) else guardsZ G r n) k = G k
    by_cases c : guardsZ G r n 5 (3 * r + n) = 0
    · rw [if_pos c]; unfold upG; rw [if_neg h]; exact ih
    · rw [if_neg c]; exact ih
theorem guards_inv {B : Int} {G : Nat → Int → Int} (h : InvG B G) (r : Int) : ∀ n : Nat, n ≤ 3 → InvG B (guardsZ G r n) := by
  intro n
  induction n with
  | zero => intro _; exact h
  | succ n ih =>
    intro hn
    show InvG B (if guardsZ G r n 5 (3 * r + n) = 0 then upG (guardsZ G r n) 4 (3 * r + n) (aimZ n) else guardsZ G r n)
    by_cases c : guardsZ G r n 5 (3 * r + n) = 0
    · rw [if_pos c]; exact invG_up4 (ih (by omega)) _ (by unfold aimZ; omega)
    · rw [if_neg c]; exact ih (by omega)
theorem writeGuards_inv {B : Int} {G : Nat → Int → Int} (h : InvG B G) (r : Int) : InvG B (writeGuardsZ G r) := by
  have h1 := guards_inv h r 3 (Nat.le_refl _)
  have h2 := invG_d h1
  exact invG_up7 h1 r ⟨h2.1, Int.le_refl _⟩
theorem writeGuards_k (G : Nat → Int → Int) (r : Int) (k : Nat) (h4 : k ≠ 4) (h7 : k ≠ 7) : writeGuardsZ G r k = G k := by
  unfold writeGuardsZ upG
  rw [if_neg h7]
  exact guards_k G r k h4 3
/-! drift -/
theorem near_bd {m v rate : Int} (hm : 300 ≤ m ∧ m ≤ 700) (hv : 0 ≤ v ∧ v ≤ 999) (hr : 1 ≤ rate ∧ rate ≤ 200) : 0 ≤ nearZ m v rate ∧ nearZ m v rate ≤ 999 := by
  unfold nearZ
  by_cases h : v < m
  · have h1 : (m - v) * rate ≤ (m - v) * 1000 := Int.mul_le_mul_of_nonneg_left (by omega) (by omega)
    rw [if_pos h]; split <;> omega
  · rw [if_neg h]
    by_cases h0 : m < v
    · have h1 : (v - m) * rate ≤ (v - m) * 1000 := Int.mul_le_mul_of_nonneg_left (by omega) (by omega)
      have h2 : 0 ≤ (v - m) * rate := Int.mul_nonneg (by omega) (by omega)
      rw [if_pos h0]; split <;> omega
    · rw [if_neg h0]; exact hv
def driftCZ (G : Nat → Int → Int) : Nat → (Nat → Int → Int)
  | 0 => G
  | n + 1 => upG (driftCZ G n) 1 n (nearZ (driftCZ G n 11 0) (driftCZ G n 1 n) (driftCZ G n 6 ((n : Int) / 8)))
def driftGZ (G : Nat → Int → Int) : Nat → (Nat → Int → Int)
  | 0 => G
  | n + 1 => if driftGZ G n 5 n = 0 then upG (driftGZ G n) 4 n (nearZ (driftGZ G n 11 0) (driftGZ G n 4 n) (driftGZ G n 6 ((n : Int) / 3))) else driftGZ G n
def driftZ (G : Nat → Int → Int) : Nat → Int → Int := driftGZ (driftCZ G 48) 18
theorem driftC_inv {B : Int} {G : Nat → Int → Int} (h : InvG B G) : ∀ n : Nat, n ≤ 48 → InvG B (driftCZ G n) := by
  intro n
  induction n with
  | zero => intro _; exact h
  | succ n ih =>
    intro hn
    have h1 := ih (by omega)
    exact invG_up1 h1 _ (near_bd (invG_s0 h1) (invG_1 h1 n (by omega) (by omega)) (invG_6 h1 ((n : Int) / 8) (by omega) (by omega)))
theorem driftG_inv {B : Int} {G : Nat → Int → Int} (h : InvG B G) : ∀ n : Nat, n ≤ 18 → InvG B (driftGZ G n) := by
  intro n
  induction n with
  | zero => intro _; exact h
  | succ n ih =>
    intro hn
    have h1 := ih (by omega)
    show InvG B (if driftGZ G n 5 n = 0 then upG (driftGZ G n) 4 n (nearZ (driftGZ G n 11 0) (driftGZ G n 4 n) (driftGZ G n 6 ((n : Int) / 3))) else driftGZ G n)
    by_cases c : driftGZ G n 5 n = 0
    · rw [if_pos c]
      exact invG_up4 h1 _ (near_bd (invG_s0 h1) (invG_4 h1 n (by omega) (by omega)) (invG_6 h1 ((n : Int) / 3) (by omega) (by omega)))
    · rw [if_neg c]; exact h1
theorem drift_inv {B : Int} {G : Nat → Int → Int} (h : InvG B G) : InvG B (driftZ G) := driftG_inv (driftC_inv h 48 (Nat.le_refl _)) 18 (Nat.le_refl _)
/-! writing a row -/
def restZ (w : Int) : Nat → Int
  | 0 => w
  | n + 1 => restZ w n / 3
def wordStZ (G : Nat → Int → Int) (r w : Int) : Nat → (Nat → Int → Int)
  | 0 => G
  | n + 1 => putZ (wordStZ G r w n) (8 * r + n) (restZ w n % 3)
theorem rest_bd {w : Int} (h : 0 ≤ w ∧ w < 2147483648) : ∀ n : Nat, 0 ≤ restZ w n ∧ restZ w n < 2147483648 := by
  intro n
  induction n with
  | zero => exact h
  | succ n ih => show 0 ≤ restZ w n / 3 ∧ restZ w n / 3 < 2147483648; omega
theorem wordSt_hi (G : Nat → Int → Int) (r w : Int) (k : Nat) : ∀ (n : Nat) (q : Int), 8 * r + n ≤ q → wordStZ G r w n k q = G k q := by
  intro n
  induction n with
  | zero => intro q _; rfl
  | succ n ih => intro q hq; exact (put_ne k (by omega)).trans (ih q (by omega))
theorem wordSt_inv {B : Int} {G : Nat → Int → Int} (h : InvG B G) (hB : B + 1 ≤ 100000000) {r w : Int} (hr : 0 ≤ r ∧ r < 6) (hw : 0 ≤ w ∧ w < 2147483648) : ∀ n : Nat, n ≤ 8 → InvG (B + 1) (wordStZ G r w n) := by
  intro n
  induction n with
  | zero => intro _; exact invG_mono h (by omega) hB
  | succ n ih =>
    intro hn
    have h1 := rest_bd hw n
    refine inv_put (ih (by omega)) (by omega) (by omega) ?_
    rw [wordSt_hi G r w 2 n _ (Int.le_refl _)]
    have h2 := invG_2 h (8 * r + n) (by omega) (by omega)
    omega
def anewStZ (G : Nat → Int → Int) (r lo up : Int) : Nat → (Nat → Int → Int)
  | 0 => G
  | n + 1 => putZ (anewStZ G r lo up n) (8 * r + n) (tellZ (anewStZ G r lo up n 1 (8 * r + n)) lo up)
def anewLostZ (G : Nat → Int → Int) (r lo up : Int) : Nat → Int
  | 0 => 0
  | n + 1 => if tellZ (anewStZ G r lo up n 1 (8 * r + n)) lo up = anewStZ G r lo up n 0 (8 * r + n) then anewLostZ G r lo up n else anewLostZ G r lo up n + 1
theorem anewSt_hi (G : Nat → Int → Int) (r lo up : Int) (k : Nat) : ∀ (n : Nat) (q : Int), 8 * r + n ≤ q → anewStZ G r lo up n k q = G k q := by
  intro n
  induction n with
  | zero => intro q _; rfl
  | succ n ih => intro q hq; exact (put_ne k (by omega)).trans (ih q (by omega))
theorem anewSt_inv {B : Int} {G : Nat → Int → Int} (h : InvG B G) (hB : B + 1 ≤ 100000000) {r lo up : Int} (hr : 0 ≤ r ∧ r < 6) : ∀ n : Nat, n ≤ 8 → InvG (B + 1) (anewStZ G r lo up n) := by
  intro n
  induction n with
  | zero => intro _; exact invG_mono h (by omega) hB
  | succ n ih =>
    intro hn
    refine inv_put (ih (by omega)) (by omega) (tellZ_01 _ _ _) ?_
    rw [anewSt_hi G r lo up 2 n _ (Int.le_refl _)]
    have h2 := invG_2 h (8 * r + n) (by omega) (by omega)
    omega
theorem anewLost_bd (G : Nat → Int → Int) (r lo up : Int) : ∀ n : Nat, 0 ≤ anewLostZ G r lo up n ∧ anewLostZ G r lo up n ≤ n := by
  intro n
  induction n with
  | zero => exact ⟨Int.le_refl _, Int.le_refl _⟩
  | succ n ih =>
    show 0 ≤ (if tellZ (anewStZ G r lo up n 1 (8 * r + n)) lo up = anewStZ G r lo up n 0 (8 * r + n) then anewLostZ G r lo up n else anewLostZ G r lo up n + 1) ∧ (if tellZ (anewStZ G r lo up n 1 (8 * r + n)) lo up = anewStZ G r lo up n 0 (8 * r + n) then anewLostZ G r lo up n else anewLostZ G r lo up n + 1) ≤ ((n + 1 : Nat) : Int)
    split <;> omega
def lostAnewZ (G : Nat → Int → Int) (r : Int) : Int := anewLostZ G r (thrZ G r 0) (thrZ G r 1) 8
def anewGZ (G : Nat → Int → Int) (r : Int) : Nat → Int → Int := writeGuardsZ (anewStZ G r (thrZ G r 0) (thrZ G r 1) 8) r
def writeAnewZ (G : Nat → Int → Int) (r : Int) : Nat → Int → Int := upG (upG (anewGZ G r) 8 r (anewGZ G r 8 r + lostAnewZ G r)) 9 r (anewGZ G r 9 r + 1)
theorem anewSt_k (G : Nat → Int → Int) (r lo up : Int) (k : Nat) (h : 4 ≤ k) : ∀ n : Nat, anewStZ G r lo up n k = G k := by
  intro n
  induction n with
  | zero => rfl
  | succ n ih => exact (put_k k h).trans ih
theorem anewG_k (G : Nat → Int → Int) (r : Int) (k : Nat) (h : 4 ≤ k) (h4 : k ≠ 4) (h7 : k ≠ 7) : anewGZ G r k = G k :=
  (writeGuards_k _ r k h4 h7).trans (anewSt_k G r _ _ k h 8)
theorem lostAnew_bd (G : Nat → Int → Int) (r : Int) : 0 ≤ lostAnewZ G r ∧ lostAnewZ G r ≤ 8 := anewLost_bd G r _ _ 8
theorem anewG_inv {B : Int} {G : Nat → Int → Int} (h : InvG B G) (hB : B + 1 ≤ 100000000) {r : Int} (hr : 0 ≤ r ∧ r < 6) : InvG (B + 1) (anewGZ G r) := writeGuards_inv (anewSt_inv h hB hr 8 (Nat.le_refl _)) r
theorem writeAnew_inv {B : Int} {G : Nat → Int → Int} (h : InvG B G) (hB : B + 1 ≤ 100000000) {r : Int} (hr : 0 ≤ r ∧ r < 6) : InvG (B + 1) (writeAnewZ G r) := by
  have h1 := anewG_inv h hB hr
  have h8 := invG_8 h r hr.1 hr.2
  have h9 := invG_9 h r hr.1 hr.2
  have e8 : anewGZ G r 8 r = G 8 r := congrFun (anewG_k G r 8 (by omega) (by omega) (by omega)) r
  have e9 : anewGZ G r 9 r = G 9 r := congrFun (anewG_k G r 9 (by omega) (by omega) (by omega)) r
  have hl := lostAnew_bd G r
  unfold writeAnewZ
  exact invG_up9 (invG_up8 h1 r (by rw [e8]; omega)) r (by rw [e9]; omega)
/-! days -/
def dayC (G : Nat → Int → Int) (r : Int) : Prop := 0 < G 11 2 ∧ G 11 2 ≤ ageZ G r
def dayStZ (G : Nat → Int → Int) : Nat → (Nat → Int → Int)
  | 0 => G
  | n + 1 => if 0 < dayStZ G n 11 2 ∧ dayStZ G n 11 2 ≤ ageZ (dayStZ G n) n then writeAnewZ (dayStZ G n) n else dayStZ G n
def dayLostZ (G : Nat → Int → Int) : Nat → Int
  | 0 => 0
  | n + 1 => if 0 < dayStZ G n 11 2 ∧ dayStZ G n 11 2 ≤ ageZ (dayStZ G n) n then dayLostZ G n + lostAnewZ (dayStZ G n) n else dayLostZ G n
def tickZ (G : Nat → Int → Int) : Nat → Int → Int := upG (driftZ G) 12 0 (driftZ G 12 0 + 1)
def endDayZ (G : Nat → Int → Int) : Nat → Int → Int := dayStZ (tickZ G) 6
def endLostZ (G : Nat → Int → Int) : Int := dayLostZ (tickZ G) 6
def daysStZ (G : Nat → Int → Int) : Nat → (Nat → Int → Int)
  | 0 => G
  | n + 1 => endDayZ (daysStZ G n)
def daysLostZ (G : Nat → Int → Int) : Nat → Int
  | 0 => 0
  | n + 1 => daysLostZ G n + endLostZ (daysStZ G n)
theorem dayRow_inv {B : Int} {G : Nat → Int → Int} (h : InvG B G) (hB : B + 6 ≤ 100000000) : ∀ n : Nat, n ≤ 6 → InvG (B + n) (dayStZ G n) := by
  intro n
  induction n with
  | zero => intro _; exact invG_mono h (by omega) (by omega)
  | succ n ih =>
    intro hn
    have h1 := ih (by omega)
    show InvG (B + ((n + 1 : Nat) : Int)) (if 0 < dayStZ G n 11 2 ∧ dayStZ G n 11 2 ≤ ageZ (dayStZ G n) n then writeAnewZ (dayStZ G n) n else dayStZ G n)
    by_cases c : 0 < dayStZ G n 11 2 ∧ dayStZ G n 11 2 ≤ ageZ (dayStZ G n) n
    · rw [if_pos c]; exact invG_mono (writeAnew_inv h1 (by omega) (r := (n : Int)) (by omega)) (by omega) (by omega)
    · rw [if_neg c]; exact invG_mono h1 (by omega) (by omega)
theorem tick_inv {B : Int} {G : Nat → Int → Int} (h : InvG B G) (hd : driftZ G 12 0 + 1 ≤ 10000000) : InvG B (tickZ G) := invG_up12 (drift_inv h) ⟨by omega, hd⟩
theorem driftC_k (G : Nat → Int → Int) (k : Nat) (h : k ≠ 1) : ∀ n : Nat, driftCZ G n k = G k := by
  intro n
  induction n with
  | zero => rfl
  | succ n ih =>
    show upG (driftCZ G n) 1 n (nearZ (driftCZ G n 11 0) (driftCZ G n 1 n) (driftCZ G n 6 ((n : Int) / 8))) k = G k
    unfold upG; rw [if_neg h]; exact ih
theorem driftG_k (G : Nat → Int → Int) (k : Nat) (h : k ≠ 4) : ∀ n : Nat, driftGZ G n k = G k := by
  intro n
  induction n with
  | zero => rfl
  | succ n ih =>
    show (if driftGZ G n 5 n = 0 then upG (driftGZ G n) 4 n (nearZ (driftGZ G n 11 0) (driftGZ G n 4 n) (driftGZ G n 6 ((n : Int) / 3))) else driftGZ G n) k = G k
    split
    · unfold upG; rw [if_neg h]; exact ih
    · exact ih
theorem drift_k (G : Nat → Int → Int) (k : Nat) (h1 : k ≠ 1) (h4 : k ≠ 4) : driftZ G k = G k := (driftG_k _ k h4 18).trans (driftC_k G k h1 48)
theorem drift_12 (G : Nat → Int → Int) : driftZ G 12 0 = G 12 0 := congrFun (drift_k G 12 (by omega) (by omega)) 0
theorem writeAnew_k (G : Nat → Int → Int) (r : Int) (k : Nat) (h : 10 ≤ k) : writeAnewZ G r k = G k := by
  unfold writeAnewZ upG
  rw [if_neg (by omega), if_neg (by omega)]
  exact anewG_k G r k (by omega) (by omega) (by omega)
theorem daySt_k (G : Nat → Int → Int) (k : Nat) (h : 10 ≤ k) : ∀ n : Nat, dayStZ G n k = G k := by
  intro n
  induction n with
  | zero => rfl
  | succ n ih =>
    show (if 0 < dayStZ G n 11 2 ∧ dayStZ G n 11 2 ≤ ageZ (dayStZ G n) n then writeAnewZ (dayStZ G n) n else dayStZ G n) k = G k
    split
    · exact (writeAnew_k _ _ k h).trans ih
    · exact ih
theorem endDay_12 (G : Nat → Int → Int) : endDayZ G 12 0 = G 12 0 + 1 := by
  have h := congrFun (daySt_k (tickZ G) 12 (by omega) 6) 0
  unfold endDayZ
  rw [h]
  show driftZ G 12 0 + 1 = _
  rw [drift_12]
theorem endDay_11 (G : Nat → Int → Int) (p : Int) : endDayZ G 11 p = G 11 p := by
  have h := congrFun (daySt_k (tickZ G) 11 (by omega) 6) p
  unfold endDayZ
  rw [h]
  exact congrFun (drift_k G 11 (by omega) (by omega)) p
theorem endDay_inv {B : Int} {G : Nat → Int → Int} (h : InvG B G) (hB : B + 6 ≤ 100000000) (hd : G 12 0 + 1 ≤ 10000000) : InvG (B + 6) (endDayZ G) :=
  dayRow_inv (tick_inv h (by rw [drift_12]; exact hd)) hB 6 (Nat.le_refl _)
theorem days_12 (G : Nat → Int → Int) : ∀ n : Nat, daysStZ G n 12 0 = G 12 0 + n := by
  intro n
  induction n with
  | zero => show G 12 0 = G 12 0 + 0; omega
  | succ n ih => show endDayZ (daysStZ G n) 12 0 = _; rw [endDay_12, ih]; omega
theorem days_inv {B : Int} {G : Nat → Int → Int} (h : InvG B G) : ∀ n : Nat, B + 6 * n ≤ 100000000 → G 12 0 + n ≤ 10000000 → InvG (B + 6 * n) (daysStZ G n) := by
  intro n
  induction n with
  | zero => intro hB _; exact invG_mono h (by omega) (by omega)
  | succ n ih =>
    intro hB hd
    have h1 := endDay_inv (ih (by omega) (by omega)) (by omega) (by rw [days_12]; omega)
    exact invG_mono h1 (by omega) (by omega)
theorem dayLost_bd (G : Nat → Int → Int) : ∀ n : Nat, 0 ≤ dayLostZ G n ∧ dayLostZ G n ≤ 8 * n := by
  intro n
  induction n with
  | zero => exact ⟨Int.le_refl _, Int.le_refl _⟩
  | succ n ih =>
    have h := lostAnew_bd (dayStZ G n) n
    show 0 ≤ (if 0 < dayStZ G n 11 2 ∧ dayStZ G n 11 2 ≤ ageZ (dayStZ G n) n then dayLostZ G n + lostAnewZ (dayStZ G n) n else dayLostZ G n) ∧ (if 0 < dayStZ G n 11 2 ∧ dayStZ G n 11 2 ≤ ageZ (dayStZ G n) n then dayLostZ G n + lostAnewZ (dayStZ G n) n else dayLostZ G n) ≤ 8 * ((n + 1 : Nat) : Int)
    split <;> omega
theorem endLost_bd (G : Nat → Int → Int) : 0 ≤ endLostZ G ∧ endLostZ G ≤ 48 := dayLost_bd (tickZ G) 6
theorem daysLost_bd (G : Nat → Int → Int) : ∀ n : Nat, 0 ≤ daysLostZ G n ∧ daysLostZ G n ≤ 48 * n := by
  intro n
  induction n with
  | zero => exact ⟨Int.le_refl _, Int.le_refl _⟩
  | succ n ih =>
    have h := endLost_bd (daysStZ G n)
    show 0 ≤ daysLostZ G n + endLostZ (daysStZ G n) ∧ daysLostZ G n + endLostZ (daysStZ G n) ≤ 48 * ((n + 1 : Nat) : Int)
    omega
