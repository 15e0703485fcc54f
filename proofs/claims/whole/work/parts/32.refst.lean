/-! what the reference's steps make of its numbers, and that the grid in them goes as the class's -/
theorem upG_self (G : Nat → Int → Int) (k : Nat) (p : Int) : upG G k p (G k p) = G := by
  funext k' q
  unfold upG upI
  by_cases h : k' = k
  · subst h
    rw [if_pos rfl]
    by_cases e : q = p
    · rw [if_pos e, e]
    · rw [if_neg e]
  · rw [if_neg h]
theorem ly_agg (S : Nat → Int → Int) {k : Nat} {p : Int} (v : Int) (h : 0 ≤ p ∧ p < lenZ k) {i : Int} (hi : 4 ≤ i ∧ i ≤ 7) : lyZ S k p v 0 i = S 0 i := by
  refine upI_n (fun e => ?_)
  by_cases a : k < 10
  · have := ix_rows a h; omega
  · have hk : k < 13 := by
      rcases Nat.lt_or_ge k 13 with b | b
      · exact b
      · exfalso; unfold lenZ at h; rw [if_neg (by omega), if_neg (by omega), if_neg (by omega), if_neg (by omega), if_neg (by omega), if_neg (by omega)] at h; omega
    have h2 := ix_top (Nat.not_lt.mp a) hk h
    have h3 := h2.1
    split at h3
    · omega
    · split at h3 <;> omega
def wrS (S : Nat → Int → Int) (r c v : Int) : Nat → Int → Int :=
  let X := lyZ (lyZ (lyZ S 0 (8 * r + c) v) 1 (8 * r + c) (aimZ v + ((37 * (8 * r + c) + 11 * gOf (S 0) 2 (8 * r + c)) % 21 - 10))) 2 (8 * r + c) (gOf (S 0) 2 (8 * r + c) + 1)
  let Y := lyZ X 3 (8 * r + c) (gOf (X 0) 12 0)
  upG Y 0 5 (Y 0 5 + 1)
theorem len48 (k : Nat) (h : k < 4) : lenZ k = 48 := if_pos h
theorem gOf_wr (S : Nat → Int → Int) {r c : Int} (v : Int) (hr : 0 ≤ r ∧ r < 6) (hc : 0 ≤ c ∧ c < 8) : gOf (wrS S r c v 0) = putZ (gOf (S 0)) (8 * r + c) v := by
  have h0 : 0 ≤ 8 * r + c ∧ 8 * r + c < lenZ 0 := by rw [len48 0 (by omega)]; omega
  have h1 : 0 ≤ 8 * r + c ∧ 8 * r + c < lenZ 1 := by rw [len48 1 (by omega)]; omega
  have h2 : 0 ≤ 8 * r + c ∧ 8 * r + c < lenZ 2 := by rw [len48 2 (by omega)]; omega
  have h3 : 0 ≤ 8 * r + c ∧ 8 * r + c < lenZ 3 := by rw [len48 3 (by omega)]; omega
  unfold wrS
  show gOf (upI (lyZ _ 3 (8 * r + c) _ 0) 5 _) = _
  rw [gOf_out _ (by omega), gOf_ly _ _ h3, gOf_ly _ _ h2, gOf_ly _ _ h1, gOf_ly _ _ h0]
  rfl
theorem wr_k (S : Nat → Int → Int) (r c v : Int) (j : Nat) (hj : j ≠ 0) : wrS S r c v j = S j := by
  unfold wrS upG lyZ upG
  simp only [if_neg hj]
/-! guards -/
def wgS (S : Nat → Int → Int) (r : Int) : Nat → (Nat → Int → Int)
  | 0 => S
  | n + 1 => if gOf (wgS S r n 0) 5 (3 * r + n) = 1 then lyZ (wgS S r n) 4 (3 * r + n) (gOf (wgS S r n 0) 4 (3 * r + n)) else lyZ (wgS S r n) 4 (3 * r + n) (aimZ n)
def wguS (S : Nat → Int → Int) (r : Int) : Nat → Int → Int := lyZ (wgS S r 3) 7 r (gOf (wgS S r 3 0) 12 0)
theorem gOf_wg {B : Int} {S : Nat → Int → Int} (hI : InvG B (gOf (S 0))) {r : Int} (hr : 0 ≤ r ∧ r < 6) : ∀ n : Nat, n ≤ 3 → gOf (wgS S r n 0) = guardsZ (gOf (S 0)) r n := by
  intro n
  induction n with
  | zero => intro _; rfl
  | succ n ih =>
    intro hn
    have h4 : 0 ≤ 3 * r + (n : Int) ∧ 3 * r + (n : Int) < lenZ 4 := by rw [show lenZ 4 = 18 from rfl]; omega
    have e := ih (by omega)
    have h5 := invG_5 (guards_inv hI r n (by omega)) (3 * r + n) (by omega) (by omega)
    show gOf ((if gOf (wgS S r n 0) 5 (3 * r + n) = 1 then lyZ (wgS S r n) 4 (3 * r + n) (gOf (wgS S r n 0) 4 (3 * r + n)) else lyZ (wgS S r n) 4 (3 * r + n) (aimZ n)) 0) = (if guardsZ (gOf (S 0)) r n 5 (3 * r + n) = 0 then upG (guardsZ (gOf (S 0)) r n) 4 (3 * r + n) (aimZ n) else guardsZ (gOf (S 0)) r n)
    by_cases c : gOf (wgS S r n 0) 5 (3 * r + n) = 1
    · rw [if_pos c, gOf_ly _ _ h4, upG_self, e, if_neg (by rw [← e]; omega)]
    · rw [if_neg c, gOf_ly _ _ h4, e, if_pos (by rw [e] at c; omega)]
theorem inv_wg {B : Int} {S : Nat → Int → Int} (hI : InvG B (gOf (S 0))) {r : Int} (hr : 0 ≤ r ∧ r < 6) (n : Nat) (hn : n ≤ 3) : InvG B (gOf (wgS S r n 0)) := by
  rw [gOf_wg hI hr n hn]; exact guards_inv hI r n hn
theorem gOf_wgu {B : Int} {S : Nat → Int → Int} (hI : InvG B (gOf (S 0))) {r : Int} (hr : 0 ≤ r ∧ r < 6) : gOf (wguS S r 0) = writeGuardsZ (gOf (S 0)) r := by
  unfold wguS
  rw [gOf_ly _ _ (show 0 ≤ r ∧ r < lenZ 7 from hr), gOf_wg hI hr 3 (Nat.le_refl _)]
  rfl
theorem inv_wgu {B : Int} {S : Nat → Int → Int} (hI : InvG B (gOf (S 0))) {r : Int} (hr : 0 ≤ r ∧ r < 6) : InvG B (gOf (wguS S r 0)) := by
  rw [gOf_wgu hI hr]; exact writeGuards_inv hI r
/-! words -/
def wwS (S : Nat → Int → Int) (r w : Int) : Nat → (Nat → Int → Int)
  | 0 => S
  | n + 1 => wrS (wwS S r w n) r n (restZ w n % 3)
theorem gOf_ww (S : Nat → Int → Int) {r : Int} (w : Int) (hr : 0 ≤ r ∧ r < 6) : ∀ n : Nat, n ≤ 8 → gOf (wwS S r w n 0) = wordStZ (gOf (S 0)) r w n := by
  intro n
  induction n with
  | zero => intro _; rfl
  | succ n ih =>
    intro hn
    show gOf (wrS (wwS S r w n) r n (restZ w n % 3) 0) = putZ (wordStZ (gOf (S 0)) r w n) (8 * r + n) (restZ w n % 3)
    rw [gOf_wr _ _ hr (by omega), ih (by omega)]
theorem inv_ww {B : Int} {S : Nat → Int → Int} (hI : InvG B (gOf (S 0))) (hB : B + 1 ≤ 100000000) {r w : Int} (hr : 0 ≤ r ∧ r < 6) (hw : 0 ≤ w ∧ w < 2147483648) (n : Nat) (hn : n ≤ 8) : InvG (B + 1) (gOf (wwS S r w n 0)) := by
  rw [gOf_ww S w hr n hn]; exact wordSt_inv hI hB hr hw n hn
theorem toldWord_bd (G : Nat → Int → Int) (r : Int) : 0 ≤ toldWordZ G r ∧ toldWordZ G r < 6561 := hornZ_bd (f := fun c => toldZ G r c) (fun c _ _ => tellZ_01 _ _ _) 8 (Nat.le_refl _)
def waS (S : Nat → Int → Int) (r : Int) : Nat → Int → Int :=
  let X2 := wguS (wwS S r (toldWordZ (gOf (S 0)) r) 8) r
  let X3 := lyZ X2 8 r (gOf (X2 0) 8 r + wrongZ (gOf (S 0)) r)
  let X4 := lyZ X3 9 r (gOf (X3 0) 9 r + 1)
  let X5 := upG X4 0 4 (X4 0 4 + wrongZ (gOf (S 0)) r)
  upG X5 0 6 (X5 0 6 + 1)
/-- the figures of a word -/
theorem rest_horn (f : Int → Int) (hf : ∀ c, 0 ≤ c → c < 8 → 0 ≤ f c ∧ f c ≤ 2) : ∀ n : Nat, n ≤ 8 → restZ (hornZ f 8) n = hornZ f (8 - n) := by
  intro n
  induction n with
  | zero => intro _; rfl
  | succ n ih =>
    intro hn
    show restZ (hornZ f 8) n / 3 = hornZ f (8 - (n + 1))
    rw [ih (by omega)]
    obtain ⟨m, hm⟩ : ∃ m, 8 - n = m + 1 := ⟨7 - n, by omega⟩
    have hm2 : 8 - (n + 1) = m := by omega
    rw [hm, hm2]
    have h := hf (7 - m) (by omega) (by omega)
    show (3 * hornZ f m + f (7 - m)) / 3 = hornZ f m
    omega
theorem digit_horn (f : Int → Int) (hf : ∀ c, 0 ≤ c → c < 8 → 0 ≤ f c ∧ f c ≤ 2) (n : Nat) (hn : n < 8) : restZ (hornZ f 8) n % 3 = f n := by
  rw [rest_horn f hf n (by omega)]
  obtain ⟨m, hm⟩ : ∃ m, 8 - n = m + 1 := ⟨7 - n, by omega⟩
  rw [hm]
  have h := hf (7 - m) (by omega) (by omega)
  have e : (7 : Int) - (m : Int) = n := by omega
  show (3 * hornZ f m + f (7 - m)) % 3 = f n
  rw [e] at h ⊢
  omega
theorem anewSt_word (G : Nat → Int → Int) (r : Int) (hr : 0 ≤ r ∧ r < 6) : ∀ n : Nat, n ≤ 8 → wordStZ G r (toldWordZ G r) n = anewStZ G r (thrZ G r 0) (thrZ G r 1) n := by
  intro n
  induction n with
  | zero => intro _; rfl
  | succ n ih =>
    intro hn
    show putZ (wordStZ G r (toldWordZ G r) n) (8 * r + n) (restZ (toldWordZ G r) n % 3) = putZ (anewStZ G r (thrZ G r 0) (thrZ G r 1) n) (8 * r + n) (tellZ (anewStZ G r (thrZ G r 0) (thrZ G r 1) n 1 (8 * r + n)) (thrZ G r 0) (thrZ G r 1))
    rw [ih (by omega), anewSt_hi G r _ _ 1 n _ (Int.le_refl _)]
    unfold toldWordZ
    rw [digit_horn (fun c => toldZ G r c) (fun c _ _ => tellZ_01 _ _ _) n (by omega)]
    rfl
theorem anewLost_eq (G : Nat → Int → Int) (r lo up : Int) : ∀ n : Nat, anewLostZ G r lo up n = wrongByZ G r lo up n := by
  intro n
  induction n with
  | zero => rfl
  | succ n ih =>
    show (if tellZ (anewStZ G r lo up n 1 (8 * r + n)) lo up = anewStZ G r lo up n 0 (8 * r + n) then anewLostZ G r lo up n else anewLostZ G r lo up n + 1) = wrongByZ G r lo up n + (if tellZ (G 1 (8 * r + n)) lo up = G 0 (8 * r + n) then 0 else 1)
    rw [anewSt_hi G r lo up 1 n _ (Int.le_refl _), anewSt_hi G r lo up 0 n _ (Int.le_refl _), ih]
    split <;> omega
theorem lostAnew_eq (G : Nat → Int → Int) (r : Int) : lostAnewZ G r = wrongZ G r := anewLost_eq G r _ _ 8
theorem gOf_wa {B : Int} {S : Nat → Int → Int} (hI : InvG B (gOf (S 0))) (hB : B + 1 ≤ 100000000) {r : Int} (hr : 0 ≤ r ∧ r < 6) : gOf (waS S r 0) = writeAnewZ (gOf (S 0)) r := by
  have hw := toldWord_bd (gOf (S 0)) r
  have hI1 := inv_ww hI hB hr (w := toldWordZ (gOf (S 0)) r) (by omega) 8 (Nat.le_refl _)
  have e2 : gOf (wguS (wwS S r (toldWordZ (gOf (S 0)) r) 8) r 0) = anewGZ (gOf (S 0)) r := by
    rw [gOf_wgu hI1 hr, gOf_ww S _ hr 8 (Nat.le_refl _), anewSt_word _ r hr 8 (Nat.le_refl _)]
    rfl
  have h8 : 0 ≤ r ∧ r < lenZ 8 := hr
  have h9 : 0 ≤ r ∧ r < lenZ 9 := hr
  unfold waS
  show gOf (upI (upI (lyZ _ 9 r _ 0) 4 _) 6 _) = _
  rw [gOf_out _ (by omega), gOf_out _ (by omega), gOf_ly _ _ h9, gOf_ly _ _ h8, e2]
  unfold writeAnewZ
  rw [lostAnew_eq]
  rfl
theorem wgu_k (S : Nat → Int → Int) (r : Int) (j : Nat) (hj : j ≠ 0) : wguS S r j = S j := by
  have h : ∀ n : Nat, wgS S r n j = S j := by
    intro n
    induction n with
    | zero => rfl
    | succ n ih =>
      show (if gOf (wgS S r n 0) 5 (3 * r + n) = 1 then lyZ (wgS S r n) 4 (3 * r + n) (gOf (wgS S r n 0) 4 (3 * r + n)) else lyZ (wgS S r n) 4 (3 * r + n) (aimZ n)) j = S j
      split
      · exact (ly_k _ _ _ _ j hj).trans ih
      · exact (ly_k _ _ _ _ j hj).trans ih
  exact (ly_k _ _ _ _ j hj).trans (h 3)
theorem ww_k (S : Nat → Int → Int) (r w : Int) (j : Nat) (hj : j ≠ 0) : ∀ n : Nat, wwS S r w n j = S j := by
  intro n
  induction n with
  | zero => rfl
  | succ n ih => exact (wr_k _ _ _ _ j hj).trans ih
theorem wa_k (S : Nat → Int → Int) (r : Int) (j : Nat) (hj : j ≠ 0) : waS S r j = S j := by
  have h : wguS (wwS S r (toldWordZ (gOf (S 0)) r) 8) r j = S j := (wgu_k _ r j hj).trans (ww_k S r _ j hj 8)
  unfold waS upG lyZ upG
  simp only [if_neg hj]
  exact h
/-! drift -/
theorem near_eq (m v rt : Int) : nearZ m v rt = (if m - v = 0 then v else if 0 < m - v then v + (if (if m - v < 0 then -(m - v) else m - v) * rt / 1000 < 1 then 1 else (if m - v < 0 then -(m - v) else m - v) * rt / 1000) else v - (if (if m - v < 0 then -(m - v) else m - v) * rt / 1000 < 1 then 1 else (if m - v < 0 then -(m - v) else m - v) * rt / 1000)) := by
  unfold nearZ
  by_cases h : v < m
  · rw [if_pos h, if_neg (show ¬ m - v = 0 by omega), if_pos (show 0 < m - v by omega), if_neg (show ¬ m - v < 0 by omega)]; omega
  · rw [if_neg h]
    by_cases h2 : m < v
    · rw [if_pos h2, if_neg (show ¬ m - v = 0 by omega), if_neg (show ¬ 0 < m - v by omega), if_pos (show m - v < 0 by omega)]
      have e : -(m - v) = v - m := by omega
      rw [e]; omega
    · rw [if_neg h2, if_pos (show m - v = 0 by omega)]
def dgS (S : Nat → Int → Int) (r : Int) : Nat → (Nat → Int → Int)
  | 0 => S
  | n + 1 => if gOf (dgS S r n 0) 5 (3 * r + n) = 1 then lyZ (dgS S r n) 4 (3 * r + n) (gOf (dgS S r n 0) 4 (3 * r + n)) else lyZ (dgS S r n) 4 (3 * r + n) (nearZ (gOf (dgS S r n 0) 11 0) (gOf (dgS S r n 0) 4 (3 * r + n)) (gOf (dgS S r n 0) 6 r))
def dcS (S : Nat → Int → Int) (r : Int) : Nat → (Nat → Int → Int)
  | 0 => S
  | n + 1 => lyZ (dcS S r n) 1 (8 * r + n) (nearZ (gOf (dcS S r n 0) 11 0) (gOf (dcS S r n 0) 1 (8 * r + n)) (gOf (dcS S r n 0) 6 r))
def drS (S : Nat → Int → Int) : Nat → (Nat → Int → Int)
  | 0 => S
  | n + 1 => dcS (dgS (drS S n) n 3) n 8
def dsS (S : Nat → Int → Int) : Nat → Int → Int := upG (drS S 6) 0 0 (gOf (drS S 6 0) 12 0 + 1)
theorem inv_ly4 {B : Int} {S : Nat → Int → Int} (h : InvG B (gOf (S 0))) {p v : Int} (hp : 0 ≤ p ∧ p < 18) (hv : 0 ≤ v ∧ v ≤ 999) : InvG B (gOf (lyZ S 4 p v 0)) := by
  rw [gOf_ly S v (show 0 ≤ p ∧ p < lenZ 4 from hp)]; exact invG_up4 h p hv
theorem inv_ly1 {B : Int} {S : Nat → Int → Int} (h : InvG B (gOf (S 0))) {p v : Int} (hp : 0 ≤ p ∧ p < 48) (hv : 0 ≤ v ∧ v ≤ 999) : InvG B (gOf (lyZ S 1 p v 0)) := by
  rw [gOf_ly S v (show 0 ≤ p ∧ p < lenZ 1 from hp)]; exact invG_up1 h p hv
theorem inv_dg {B : Int} {S : Nat → Int → Int} (h : InvG B (gOf (S 0))) {r : Int} (hr : 0 ≤ r ∧ r < 6) : ∀ n : Nat, n ≤ 3 → InvG B (gOf (dgS S r n 0)) := by
  intro n
  induction n with
  | zero => intro _; exact h
  | succ n ih =>
    intro hn
    have h1 := ih (by omega)
    have h4 := invG_4 h1 (3 * r + n) (by omega) (by omega)
    simp only [dgS]
    split
    · exact inv_ly4 h1 (by omega) h4
    · exact inv_ly4 h1 (by omega) (near_bd (invG_s0 h1) h4 (invG_6 h1 r hr.1 hr.2))
theorem inv_dc {B : Int} {S : Nat → Int → Int} (h : InvG B (gOf (S 0))) {r : Int} (hr : 0 ≤ r ∧ r < 6) : ∀ n : Nat, n ≤ 8 → InvG B (gOf (dcS S r n 0)) := by
  intro n
  induction n with
  | zero => intro _; exact h
  | succ n ih =>
    intro hn
    have h1 := ih (by omega)
    exact inv_ly1 h1 (by omega) (near_bd (invG_s0 h1) (invG_1 h1 (8 * r + n) (by omega) (by omega)) (invG_6 h1 r hr.1 hr.2))
theorem inv_dr {B : Int} {S : Nat → Int → Int} (h : InvG B (gOf (S 0))) : ∀ n : Nat, n ≤ 6 → InvG B (gOf (drS S n 0)) := by
  intro n
  induction n with
  | zero => intro _; exact h
  | succ n ih =>
    intro hn
    exact inv_dc (inv_dg (ih (by omega)) (r := (n : Int)) (by omega) 3 (Nat.le_refl _)) (r := (n : Int)) (by omega) 8 (Nat.le_refl _)
