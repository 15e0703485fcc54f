/-! what holds of every grid: sums, thresholds, the rows by rank -/
theorem sum_in {f : Int → Int} {M : Int} : ∀ n : Nat, (∀ p : Int, 0 ≤ p → p < n → 0 ≤ f p ∧ f p ≤ M) → 0 ≤ sumZ n f ∧ sumZ n f ≤ M * n := by
  intro n
  induction n with
  | zero => intro _; simp [sumZ]
  | succ n ih =>
    intro h
    have h1 := h n (by omega) (by omega)
    have h2 := ih (fun p a b => h p a (by omega))
    have e : M * ((n + 1 : Nat) : Int) = M * n + M := by rw [Int.natCast_add, Int.mul_add]; simp
    rw [e]
    show 0 ≤ sumZ n f + f n ∧ sumZ n f + f n ≤ M * n + M
    omega
theorem levels_n {B : Int} {G : Nat → Int → Int} (hI : InvG B G) : ∀ n : Nat, n ≤ 48 → ofLevelZ G 0 n + ofLevelZ G 1 n + ofLevelZ G 2 n = n := by
  intro n
  induction n with
  | zero => intro _; rfl
  | succ n ih =>
    intro hn
    have h0 := invG_0 hI n (by omega) (by omega)
    have h1 := ih (by omega)
    unfold ofLevelZ at h1 ⊢
    show (sumZ n (fun p => if G 0 p = 0 then 1 else 0) + (if G 0 n = 0 then 1 else 0)) + (sumZ n (fun p => if G 0 p = 1 then 1 else 0) + (if G 0 n = 1 then 1 else 0)) + (sumZ n (fun p => if G 0 p = 2 then 1 else 0) + (if G 0 n = 2 then 1 else 0)) = ((n + 1 : Nat) : Int)
    omega
theorem levels_48 {B : Int} {G : Nat → Int → Int} (hI : InvG B G) : ofLevelZ G 0 48 + ofLevelZ G 1 48 + ofLevelZ G 2 48 = 48 := levels_n hI 48 (Nat.le_refl _)
theorem level_bd (G : Nat → Int → Int) (v : Int) : 0 ≤ ofLevelZ G v 48 ∧ ofLevelZ G v 48 ≤ 48 := sumZ_bd (f := fun p => if G 0 p = v then 1 else 0) (M := 1) (fun p => by
    show 0 ≤ (if G 0 p = v then (1 : Int) else 0) ∧ (if G 0 p = v then (1 : Int) else 0) ≤ 1
    omega) 48
theorem pairs_bd (G : Nat → Int → Int) : 0 ≤ pairsZ G 9 ∧ pairsZ G 9 ≤ 9 := sumZ_bd (f := fun p => if G 10 p ≤ 0 then 0 else 1) (M := 1) (fun p => by
    show 0 ≤ (if G 10 p ≤ 0 then (0 : Int) else 1) ∧ (if G 10 p ≤ 0 then (0 : Int) else 1) ≤ 1
    omega) 9
theorem allWrong_bd (G : Nat → Int → Int) : 0 ≤ allWrongZ G 6 ∧ allWrongZ G 6 ≤ 48 := sumZ_bd (f := fun r => wrongZ G r) (M := 8) (fun r => wrongZ_bd G r) 6
theorem failed_bd {B : Int} {G : Nat → Int → Int} (hI : InvG B G) : 0 ≤ sumZ 18 (G 5) ∧ sumZ 18 (G 5) ≤ 18 := sum_in (M := 1) 18 (fun p a b => invG_5 hI p a (by omega))
theorem lost_bd {B : Int} {G : Nat → Int → Int} (hI : InvG B G) : 0 ≤ sumZ 6 (G 8) ∧ sumZ 6 (G 8) ≤ 48 * B := by
  have h := sum_in (M := 8 * B) 6 (fun p a b => invG_8 hI p a (by omega))
  omega
theorem own_lt {B : Int} {G : Nat → Int → Int} (hI : InvG B G) {r : Int} (h : rightZ G r ≠ 0) : ownZ G r 0 < ownZ G r 1 := by
  have hr := rightZ_in h
  have s := invG_s1 hI
  have g0 := invG_4 hI (3 * r) (by omega) (by omega)
  have g1 := invG_4 hI (3 * r + 1) (by omega) (by omega)
  have g2 := invG_4 hI (3 * r + 2) (by omega) (by omega)
  unfold rightZ at h
  unfold ownZ
  rw [show 3 * r + 0 = 3 * r by omega, show 3 * r + 1 + 1 = 3 * r + 2 by omega]
  omega
theorem thr_c1 {G : Nat → Int → Int} {r : Int} (w : Int) (h : rightZ G r ≠ 0) : thrZ G r w = ownZ G r w := if_pos h
theorem thr_c2 {G : Nat → Int → Int} {r : Int} (w : Int) (h : ¬ rightZ G r ≠ 0) (a : rightZ G (r - 1) ≠ 0) (b : rightZ G (r + 1) ≠ 0) : thrZ G r w = (ownZ G (r - 1) w + ownZ G (r + 1) w) / 2 := (if_neg h).trans (if_pos ⟨a, b⟩)
theorem thr_c3 {G : Nat → Int → Int} {r : Int} (w : Int) (h : ¬ rightZ G r ≠ 0) (a : rightZ G (r - 1) ≠ 0) (b : ¬ rightZ G (r + 1) ≠ 0) : thrZ G r w = ownZ G (r - 1) w := (if_neg h).trans ((if_neg (fun q => b q.2)).trans (if_pos a))
theorem thr_c4 {G : Nat → Int → Int} {r : Int} (w : Int) (h : ¬ rightZ G r ≠ 0) (a : ¬ rightZ G (r - 1) ≠ 0) (b : rightZ G (r + 1) ≠ 0) : thrZ G r w = ownZ G (r + 1) w := (if_neg h).trans ((if_neg (fun q => a q.1)).trans ((if_neg a).trans (if_pos b)))
theorem thr_c5 {G : Nat → Int → Int} {r : Int} (w : Int) (h : ¬ rightZ G r ≠ 0) (a : ¬ rightZ G (r - 1) ≠ 0) (b : ¬ rightZ G (r + 1) ≠ 0) : thrZ G r w = if w = 0 then 300 else 700 := (if_neg h).trans ((if_neg (fun q => a q.1)).trans ((if_neg a).trans (if_neg b)))
theorem thr_lt {B : Int} {G : Nat → Int → Int} (hI : InvG B G) (r : Int) : thrZ G r 0 < thrZ G r 1 := by
  by_cases c1 : rightZ G r ≠ 0
  · rw [thr_c1 0 c1, thr_c1 1 c1]; exact own_lt hI c1
  · by_cases c2 : rightZ G (r - 1) ≠ 0
    · have a1 := own_lt hI c2
      have b1 := ownZ_bd hI (r - 1) 0 (rightZ_in c2) (by omega)
      by_cases c3 : rightZ G (r + 1) ≠ 0
      · have a2 := own_lt hI c3
        have b2 := ownZ_bd hI (r + 1) 0 (rightZ_in c3) (by omega)
        rw [thr_c2 0 c1 c2 c3, thr_c2 1 c1 c2 c3]; omega
      · rw [thr_c3 0 c1 c2 c3, thr_c3 1 c1 c2 c3]; exact a1
    · by_cases c3 : rightZ G (r + 1) ≠ 0
      · rw [thr_c4 0 c1 c2 c3, thr_c4 1 c1 c2 c3]; exact own_lt hI c3
      · rw [thr_c5 0 c1 c2 c3, thr_c5 1 c1 c2 c3]; decide
theorem thr_own {G : Nat → Int → Int} {r : Int} (w : Int) (h : rightZ G r = 1) : thrZ G r w = ownZ G r w := thr_c1 w (by omega)
theorem thr_fix {G : Nat → Int → Int} {r : Int} (h : rightZ G r = 0) (ha : rightZ G (r - 1) = 0) (hb : rightZ G (r + 1) = 0) : thrZ G r 0 = 300 ∧ thrZ G r 1 = 700 :=
  ⟨thr_c5 0 (by omega) (by omega) (by omega), thr_c5 1 (by omega) (by omega) (by omega)⟩
theorem src_e (G : Nat → Int → Int) (r : Int) : sourceZ G r = (if rightZ G r = 1 then 0 else if rightZ G (r - 1) = 1 ∨ rightZ G (r + 1) = 1 then 1 else 2) := by
  have h1 := rightZ_01 G r
  have h2 := rightZ_01 G (r - 1)
  have h3 := rightZ_01 G (r + 1)
  unfold sourceZ
  omega
theorem right_e1 {G : Nat → Int → Int} {r : Int} (h : 0 ≤ r ∧ r < 6) : rightZ G r = (if G 4 (3 * r + 1) - G 4 (3 * r + 0) < G 11 1 then 0 else if G 4 (3 * r + 2) - G 4 (3 * r + 1) < G 11 1 then 0 else 1) := by
  rw [show 3 * r + 0 = 3 * r by omega]
  exact if_neg (by omega)
theorem right_lo (G : Nat → Int → Int) {r : Int} (h : r < 0) : rightZ G r = 0 := if_pos (Or.inl h)
theorem right_hi (G : Nat → Int → Int) {r : Int} (h : 6 ≤ r) : rightZ G r = 0 := if_pos (Or.inr h)
theorem own_e (G : Nat → Int → Int) (r : Int) : ownZ G r 0 = (G 4 (3 * r + 0) + G 4 (3 * r + 1)) / 2 ∧ ownZ G r 1 = (G 4 (3 * r + 1) + G 4 (3 * r + 2)) / 2 := by
  unfold ownZ
  rw [show 3 * r + 0 + 1 = 3 * r + 1 by omega, show 3 * r + 1 + 1 = 3 * r + 2 by omega]
  exact ⟨rfl, rfl⟩
theorem wrong_s (G : Nat → Int → Int) (n : Nat) : allWrongZ G (n + 1) = allWrongZ G n + wrongZ G n := rfl
def failN (G : Nat → Int → Int) : Nat → Int
  | 0 => 0
  | n + 1 => failN G n + (G 5 (3 * (n : Int) + 0) + G 5 (3 * (n : Int) + 1) + G 5 (3 * (n : Int) + 2))
theorem fail_s (G : Nat → Int → Int) (n : Nat) : failN G (n + 1) = failN G n + (G 5 (3 * (n : Int) + 0) + G 5 (3 * (n : Int) + 1) + G 5 (3 * (n : Int) + 2)) := rfl
theorem fail_e (G : Nat → Int → Int) : ∀ n : Nat, sumZ (3 * n) (G 5) = failN G n := by
  intro n
  induction n with
  | zero => rfl
  | succ n ih =>
    rw [show 3 * (n + 1) = 3 * n + 1 + 1 + 1 by omega]
    show sumZ (3 * n) (G 5) + G 5 ((3 * n : Nat) : Int) + G 5 ((3 * n + 1 : Nat) : Int) + G 5 ((3 * n + 1 + 1 : Nat) : Int) = _
    rw [ih, fail_s, show ((3 * n : Nat) : Int) = 3 * (n : Int) + 0 by omega, show ((3 * n + 1 : Nat) : Int) = 3 * (n : Int) + 1 by omega, show ((3 * n + 1 + 1 : Nat) : Int) = 3 * (n : Int) + 2 by omega]
    omega
theorem fail_18 (G : Nat → Int → Int) : sumZ 18 (G 5) = failN G 6 := fail_e G 6
theorem failN_bd {B : Int} {G : Nat → Int → Int} (hI : InvG B G) : ∀ n : Nat, n ≤ 6 → 0 ≤ failN G n ∧ failN G n ≤ 3 * n := by
  intro n
  induction n with
  | zero => intro _; exact ⟨Int.le_refl 0, Int.le_refl 0⟩
  | succ n ih =>
    intro hn
    have h := ih (by omega)
    have a := invG_5 hI (3 * (n : Int) + 0) (by omega) (by omega)
    have b := invG_5 hI (3 * (n : Int) + 1) (by omega) (by omega)
    have c := invG_5 hI (3 * (n : Int) + 2) (by omega) (by omega)
    rw [fail_s]
    omega
theorem allWrongN_bd (G : Nat → Int → Int) (n : Nat) : 0 ≤ allWrongZ G n ∧ allWrongZ G n ≤ 8 * n := sumZ_bd (f := fun r => wrongZ G r) (M := 8) (fun r => wrongZ_bd G r) n
/-- the next row by rank has fewer cells told wrong, or as many and stands lower -/
theorem rank_next (G : Nat → Int → Int) (i : Nat) (hi : 1 ≤ i) (h6 : i < 6) : wrongZ G (wsZ G (i + 1)).2 < wrongZ G (wsZ G i).2 ∨ (wrongZ G (wsZ G (i + 1)).2 = wrongZ G (wsZ G i).2 ∧ (wsZ G i).2 < (wsZ G (i + 1)).2) := by
  obtain ⟨j, rfl⟩ : ∃ j, i = j + 1 := ⟨i - 1, by omega⟩
  obtain ⟨f, f1, f2, f3, -⟩ := ws_turn (G := G) (i := j) (by omega) (Wi_all G j (by omega))
  obtain ⟨g, g1, g2, g3, -⟩ := ws_turn (G := G) (i := j + 1) (by omega) (Wi_all G (j + 1) (by omega))
  rw [f2, g2]
  rw [ahead_6 G f f1, sumN_6] at f3
  rw [ahead_6 G g g1, sumN_6] at g3
  have h : keyZ G g < keyZ G f := by
    by_cases c : keyZ G g < keyZ G f
    · exact c
    · exfalso
      omega
  unfold keyZ at h
  omega
theorem fst_bd (f : Nat → Int) : ∀ n i : Nat, fstZ f n i = -1000004 ∨ ((i : Int) ≤ fstZ f n i ∧ fstZ f n i < (i : Int) + n) := by
  intro n
  induction n with
  | zero => intro i; exact Or.inl rfl
  | succ n ih =>
    intro i
    by_cases h : f i ≠ 0
    · rw [fst_hit (by omega) h]; right; omega
    · rw [fst_miss (by omega) (by omega), show n + 1 - 1 = n by omega]
      have := ih (i + 1)
      omega
theorem fst_0 (f : Nat → Int) (n : Nat) : fstZ f (n + 1) 0 = 0 ↔ f 0 ≠ 0 := by
  by_cases h : f 0 ≠ 0
  · rw [fst_hit (by omega) h]; exact ⟨fun _ => h, fun _ => rfl⟩
  · rw [fst_miss (by omega) (by omega), show n + 1 - 1 = n by omega]
    have := fst_bd f n (0 + 1)
    constructor
    · intro e; omega
    · intro e; exact absurd e h
theorem wrongIn_f (G : Nat → Int → Int) (r : Int) : (fstZ (fun i : Nat => wrongZ (daysStZ G i) r) 301 0 = -1000004 ∨ (0 ≤ fstZ (fun i : Nat => wrongZ (daysStZ G i) r) 301 0 ∧ fstZ (fun i : Nat => wrongZ (daysStZ G i) r) 301 0 ≤ 300)) ∧ (fstZ (fun i : Nat => wrongZ (daysStZ G i) r) 301 0 = 0 ↔ 0 < wrongZ G r) := by
  have h1 := fst_bd (fun i : Nat => wrongZ (daysStZ G i) r) 301 0
  have h2 := fst_0 (fun i : Nat => wrongZ (daysStZ G i) r) 300
  have h3 := wrongZ_bd G r
  have h2 : fstZ (fun i : Nat => wrongZ (daysStZ G i) r) 301 0 = 0 ↔ wrongZ (daysStZ G 0) r ≠ 0 := h2
  rw [dy_0] at h2
  generalize fstZ (fun i : Nat => wrongZ (daysStZ G i) r) 301 0 = v at h1 h2 ⊢
  have h2' : v = 0 ↔ wrongZ G r ≠ 0 := h2
  omega
theorem rightFor_f (G : Nat → Int → Int) (r : Int) : (fstZ (fun i : Nat => if rightZ (daysStZ (upG G 11 2 0) i) r = 0 then 1 else 0) 301 0 = -1000004 ∨ (0 ≤ fstZ (fun i : Nat => if rightZ (daysStZ (upG G 11 2 0) i) r = 0 then 1 else 0) 301 0 ∧ fstZ (fun i : Nat => if rightZ (daysStZ (upG G 11 2 0) i) r = 0 then 1 else 0) 301 0 ≤ 300)) ∧ (fstZ (fun i : Nat => if rightZ (daysStZ (upG G 11 2 0) i) r = 0 then 1 else 0) 301 0 = 0 ↔ rightZ G r = 0) := by
  have h1 := fst_bd (fun i : Nat => if rightZ (daysStZ (upG G 11 2 0) i) r = 0 then 1 else 0) 301 0
  have h2 := fst_0 (fun i : Nat => if rightZ (daysStZ (upG G 11 2 0) i) r = 0 then 1 else 0) 300
  have h3 : rightZ (upG G 11 2 0) r = rightZ G r := by
    unfold rightZ
    have e4 : upG G 11 2 0 4 = G 4 := if_neg (by decide)
    have e1 : upG G 11 2 0 11 1 = G 11 1 := by show upI (G 11) 2 0 1 = G 11 1; exact upI_n (by decide)
    rw [e4, e1]
  have h2 : fstZ (fun i : Nat => if rightZ (daysStZ (upG G 11 2 0) i) r = 0 then 1 else 0) 301 0 = 0 ↔ (if rightZ (daysStZ (upG G 11 2 0) 0) r = 0 then (1 : Int) else 0) ≠ 0 := h2
  rw [dy_0, h3] at h2
  generalize fstZ (fun i : Nat => if rightZ (daysStZ (upG G 11 2 0) i) r = 0 then 1 else 0) 301 0 = v at h1 h2 ⊢
  have h2' : v = 0 ↔ (if rightZ G r = 0 then (1 : Int) else 0) ≠ 0 := h2
  by_cases c : rightZ G r = 0
  · rw [if_pos c] at h2'
    exact ⟨by omega, fun _ => c, fun _ => h2'.mpr (by decide)⟩
  · rw [if_neg c] at h2'
    exact ⟨by omega, fun e => absurd rfl (h2'.mp e), fun e => absurd e c⟩
theorem sag_bd (G : Nat → Int → Int) : ∀ n i : Nat, n + i = 60 → sagZ G n i = -1000004 ∨ (1 ≤ sagZ G n i ∧ sagZ G n i ≤ 60) := by
  intro n
  induction n with
  | zero => intro i _; exact Or.inl rfl
  | succ n ih =>
    intro i hi
    by_cases h : lbZ G (60 - (i : Int)) = 0
    · rw [sag_hit (by omega) h]; right; omega
    · have e : sagZ G (n + 1) i = sagZ G n (i + 1) := if_neg h
      rw [e]
      exact ih (i + 1) (by omega)
/-! what the changes make -/
theorem anewSt_lo (G : Nat → Int → Int) (r lo up : Int) (k : Nat) (q : Int) : ∀ n : Nat, (∀ j : Nat, j < n → q ≠ 8 * r + j) → anewStZ G r lo up n k q = G k q := by
  intro n
  induction n with
  | zero => intro _; rfl
  | succ n ih => intro h; exact (put_ne k (h n (by omega))).trans (ih (fun j hj => h j (by omega)))
theorem anewSt_0 (G : Nat → Int → Int) (r lo up : Int) : ∀ (n j : Nat), j < n → anewStZ G r lo up n 0 (8 * r + j) = tellZ (G 1 (8 * r + j)) lo up := by
  intro n
  induction n with
  | zero => intro j h; omega
  | succ n ih =>
    intro j hj
    by_cases h : j = n
    · subst h
      have e : anewStZ G r lo up (j + 1) 0 (8 * r + j) = tellZ (anewStZ G r lo up j 1 (8 * r + j)) lo up := put_0 _ _ _
      rw [e, anewSt_hi G r lo up 1 j _ (Int.le_refl _)]
    · have e : anewStZ G r lo up (n + 1) 0 (8 * r + j) = anewStZ G r lo up n 0 (8 * r + j) := put_ne 0 (by omega)
      rw [e]
      exact ih j (by omega)
theorem horn_8 (f : Int → Int) : hornZ f 8 = 3 * (3 * (3 * (3 * (3 * (3 * (3 * (3 * 0 + f 7) + f 6) + f 5) + f 4) + f 3) + f 2) + f 1) + f 0 := rfl
theorem horn_cong {f g : Int → Int} (h : ∀ j : Nat, j < 8 → f j = g j) : hornZ f 8 = hornZ g 8 := by
  have h0 := h 0 (by omega)
  have h1 := h 1 (by omega)
  have h2 := h 2 (by omega)
  have h3 := h 3 (by omega)
  have h4 := h 4 (by omega)
  have h5 := h 5 (by omega)
  have h6 := h 6 (by omega)
  have h7 := h 7 (by omega)
  rw [horn_8, horn_8]
  simp only [Int.natCast_zero, Int.natCast_one] at h0 h1
  have e0 : f 0 = g 0 := h0
  have e1 : f 1 = g 1 := h1
  have e2 : f 2 = g 2 := h2
  have e3 : f 3 = g 3 := h3
  have e4 : f 4 = g 4 := h4
  have e5 : f 5 = g 5 := h5
  have e6 : f 6 = g 6 := h6
  have e7 : f 7 = g 7 := h7
  rw [e0, e1, e2, e3, e4, e5, e6, e7]
theorem anew_word (G : Nat → Int → Int) (r : Int) : levelWordZ (writeAnewZ G r) r = toldWordZ G r := by
  unfold levelWordZ toldWordZ
  refine horn_cong (fun j hj => ?_)
  show writeAnewZ G r 0 (8 * r + j) = toldZ G r j
  have e1 : writeAnewZ G r 0 = anewStZ G r (thrZ G r 0) (thrZ G r 1) 8 0 := writeGuards_k _ r 0 (by decide) (by decide)
  rw [e1]
  exact anewSt_0 G r _ _ 8 j hj
theorem anew_8 (G : Nat → Int → Int) (r : Int) : writeAnewZ G r 8 = upI (G 8) r (G 8 r + lostAnewZ G r) := by
  have e : anewGZ G r 8 = G 8 := anewG_k G r 8 (by omega) (by omega) (by omega)
  have e2 : writeAnewZ G r 8 = upI (anewGZ G r 8) r (anewGZ G r 8 r + lostAnewZ G r) := rfl
  rw [e2, e]
theorem anew_lost (G : Nat → Int → Int) {r : Int} (hr : 0 ≤ r ∧ r < 6) : sumZ 6 (writeAnewZ G r 8) = sumZ 6 (G 8) + lostAnewZ G r := by
  rw [anew_8, sum_up _ _ _ 6 hr.1 (by omega)]
  omega
theorem guards_at (G : Nat → Int → Int) (r : Int) : guardsZ G r 3 4 (3 * r + 1) = (if G 5 (3 * r + 1) = 0 then 500 else G 4 (3 * r + 1)) := by
  have k5 : ∀ n : Nat, guardsZ G r n 5 = G 5 := fun n => guards_k G r 5 (by decide) n
  have e3 : guardsZ G r 3 = if guardsZ G r 2 5 (3 * r + ((2 : Nat) : Int)) = 0 then upG (guardsZ G r 2) 4 (3 * r + ((2 : Nat) : Int)) (aimZ ((2 : Nat) : Int)) else guardsZ G r 2 := rfl
  have e2 : guardsZ G r 2 = if guardsZ G r 1 5 (3 * r + ((1 : Nat) : Int)) = 0 then upG (guardsZ G r 1) 4 (3 * r + ((1 : Nat) : Int)) (aimZ ((1 : Nat) : Int)) else guardsZ G r 1 := rfl
  have e1 : guardsZ G r 1 = if guardsZ G r 0 5 (3 * r + ((0 : Nat) : Int)) = 0 then upG (guardsZ G r 0) 4 (3 * r + ((0 : Nat) : Int)) (aimZ ((0 : Nat) : Int)) else guardsZ G r 0 := rfl
  have a3 : guardsZ G r 3 4 (3 * r + 1) = guardsZ G r 2 4 (3 * r + 1) := by
    rw [e3]
    split
    · exact upI_n (by omega)
    · rfl
  have a1 : guardsZ G r 1 4 (3 * r + 1) = G 4 (3 * r + 1) := by
    rw [e1]
    split
    · exact upI_n (by omega)
    · rfl
  rw [a3, e2, k5 1, show ((1 : Nat) : Int) = 1 from rfl]
  by_cases c : G 5 (3 * r + 1) = 0
  · rw [if_pos c, if_pos c]
    exact upI_s _ _ _
  · rw [if_neg c, if_neg c]
    exact a1
theorem anew_guard (G : Nat → Int → Int) (r : Int) : writeAnewZ G r 5 = G 5 ∧ (G 5 (3 * r + 1) = 0 → writeAnewZ G r 4 (3 * r + 1) = 500) ∧ writeAnewZ G r 12 = G 12 ∧ writeAnewZ G r 7 r = G 12 0 := by
  have s : ∀ k, 4 ≤ k → anewStZ G r (thrZ G r 0) (thrZ G r 1) 8 k = G k := fun k h => anewSt_k G r _ _ k h 8
  refine ⟨?_, fun h => ?_, writeAnew_k G r 12 (by omega), ?_⟩
  · exact anewG_k G r 5 (by omega) (by omega) (by omega)
  · have e : writeAnewZ G r 4 (3 * r + 1) = guardsZ (anewStZ G r (thrZ G r 0) (thrZ G r 1) 8) r 3 4 (3 * r + 1) := rfl
    rw [e, guards_at, s 5 (by omega), if_pos h]
  · have e : writeAnewZ G r 7 r = guardsZ (anewStZ G r (thrZ G r 0) (thrZ G r 1) 8) r 3 12 0 := upI_s _ _ _
    rw [e, guards_k _ r 12 (by decide) 3, s 12 (by omega)]
theorem day_lost (G : Nat → Int → Int) : ∀ n : Nat, n ≤ 6 → sumZ 6 (dayStZ G n 8) = sumZ 6 (G 8) + dayLostZ G n := by
  intro n
  induction n with
  | zero => intro _; show sumZ 6 (G 8) = sumZ 6 (G 8) + 0; omega
  | succ n ih =>
    intro hn
    have h := ih (by omega)
    have e1 : dayStZ G (n + 1) = if 0 < dayStZ G n 11 2 ∧ dayStZ G n 11 2 ≤ ageZ (dayStZ G n) n then writeAnewZ (dayStZ G n) n else dayStZ G n := rfl
    have e2 : dayLostZ G (n + 1) = if 0 < dayStZ G n 11 2 ∧ dayStZ G n 11 2 ≤ ageZ (dayStZ G n) n then dayLostZ G n + lostAnewZ (dayStZ G n) n else dayLostZ G n := rfl
    rw [e1, e2]
    split
    · rw [anew_lost _ (by omega), h]; omega
    · exact h
theorem end_lost (G : Nat → Int → Int) : sumZ 6 (endDayZ G 8) = sumZ 6 (G 8) + endLostZ G := by
  have h := day_lost (tickZ G) 6 (Nat.le_refl _)
  have e : tickZ G 8 = G 8 := by
    unfold tickZ upG
    rw [if_neg (by decide)]
    exact drift_k G 8 (by decide) (by decide)
  rw [e] at h
  exact h
theorem days_lost (G : Nat → Int → Int) : ∀ n : Nat, sumZ 6 (daysStZ G n 8) = sumZ 6 (G 8) + daysLostZ G n := by
  intro n
  induction n with
  | zero => show sumZ 6 (G 8) = sumZ 6 (G 8) + 0; omega
  | succ n ih =>
    have h := end_lost (daysStZ G n)
    show sumZ 6 (endDayZ (daysStZ G n) 8) = sumZ 6 (G 8) + (daysLostZ G n + endLostZ (daysStZ G n))
    omega
theorem word_0 (G : Nat → Int → Int) (r w : Int) : ∀ (n j : Nat), j < n → wordStZ G r w n 0 (8 * r + j) = restZ w j % 3 := by
  intro n
  induction n with
  | zero => intro j h; omega
  | succ n ih =>
    intro j hj
    by_cases h : j = n
    · subst h
      exact put_0 _ _ _
    · have e : wordStZ G r w (n + 1) 0 (8 * r + j) = wordStZ G r w n 0 (8 * r + j) := put_ne 0 (by omega)
      rw [e]
      exact ih j (by omega)
theorem fill_word (G : Nat → Int → Int) (r : Int) {w : Int} (hw : 0 ≤ w ∧ w ≤ 6560) : levelWordZ (wordStZ G r w 8) r = w := by
  have e : levelWordZ (wordStZ G r w 8) r = hornZ (fun c => restZ w c.toNat % 3) 8 := by
    unfold levelWordZ
    refine horn_cong (fun j hj => ?_)
    show wordStZ G r w 8 0 (8 * r + j) = restZ w (j : Int).toNat % 3
    rw [show ((j : Int)).toNat = j by omega]
    exact word_0 G r w 8 j hj
  rw [e, horn_8]
  have z : restZ w 0 = w := rfl
  have s0 : restZ w 1 = restZ w 0 / 3 := rfl
  have s1 : restZ w 2 = restZ w 1 / 3 := rfl
  have s2 : restZ w 3 = restZ w 2 / 3 := rfl
  have s3 : restZ w 4 = restZ w 3 / 3 := rfl
  have s4 : restZ w 5 = restZ w 4 / 3 := rfl
  have s5 : restZ w 6 = restZ w 5 / 3 := rfl
  have s6 : restZ w 7 = restZ w 6 / 3 := rfl
  show 3 * (3 * (3 * (3 * (3 * (3 * (3 * (3 * 0 + restZ w 7 % 3) + restZ w 6 % 3) + restZ w 5 % 3) + restZ w 4 % 3) + restZ w 3 % 3) + restZ w 2 % 3) + restZ w 1 % 3) + restZ w 0 % 3 = w
  omega
theorem ask_10 {B : Int} {G : Nat → Int → Int} (hI : InvG B G) {r c : Int} (hr : 0 ≤ r ∧ r < 6) (hc : 0 ≤ c ∧ c < 8) : sumZ 9 (askZ G r c 10) = sumZ 9 (G 10) + 1 ∧ askZ G r c 10 (3 * G 0 (8 * r + c) + toldZ G r c) = G 10 (3 * G 0 (8 * r + c) + toldZ G r c) + 1 := by
  have h0 := invG_0 hI (8 * r + c) (by omega) (by omega)
  have h1 := told_bd G r c
  have e : askZ G r c 10 = upI (G 10) (3 * G 0 (8 * r + c) + toldZ G r c) (G 10 (3 * G 0 (8 * r + c) + toldZ G r c) + 1) := rfl
  rw [e, sum_up _ _ _ 9 (by omega) (by omega), upI_s]
  omega
theorem asked_k {k : Nat} {G : Nat → Int → Int} (g : Gk k G) (hk : k < 500) : 0 ≤ sumZ 9 (G 10) ∧ sumZ 9 (G 10) < 1000 := by
  have h := asked_bd g.1
  have h2 := g.2.2
  omega
