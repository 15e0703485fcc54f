/-! what the reference answers -/
theorem s_10 (s : Int → Int) {z i : Int} (hz : z = 8 + i) (h : 0 ≤ i ∧ i < 9) : s z = gOf s 10 i := by
  rw [gOf_in s (k := 10) (p := i) h, hz]; rfl
theorem s_11 (s : Int → Int) {z i : Int} (hz : z = 1 + i) (h : 0 ≤ i ∧ i < 3) : s z = gOf s 11 i := by
  rw [gOf_in s (k := 11) (p := i) h, hz]; rfl
/-- the sums that the reference keeps beside its numbers -/
def RefI (s : Int → Int) : Prop := s 4 = sumZ 6 (gOf s 8) ∧ s 5 = sumZ 48 (gOf s 2) - 48 ∧ s 6 = sumZ 6 (gOf s 9) ∧ s 7 = sumZ 9 (gOf s 10)
def ewV (r c v : Int) : Int := if 0 ≤ r ∧ r < 6 ∧ 0 ≤ c ∧ c < 8 ∧ 0 ≤ v ∧ v < 3 then 0 else -1000001
def efV (G : Nat → Int → Int) (r g v : Int) : Int := if 0 ≤ r ∧ r < 6 ∧ 0 ≤ g ∧ g < 3 ∧ 0 ≤ v ∧ v ≤ 999 then (if G 5 (3 * r + g) = 0 then 0 else -1000002) else -1000001
def emV (G : Nat → Int → Int) (r g : Int) : Int := if 0 ≤ r ∧ r < 6 ∧ 0 ≤ g ∧ g < 3 then (if G 5 (3 * r + g) = 0 then -1000002 else 0) else -1000001
def erV (r v : Int) : Int := if 0 ≤ r ∧ r < 6 ∧ 1 ≤ v ∧ v ≤ 200 then 0 else -1000001
def edV (G : Nat → Int → Int) (n : Int) : Int := if 1 ≤ n ∧ n ≤ 99 then (if 9999 - n < G 12 0 then -1000003 else 0) else -1000001
def nrV (G : Nat → Int → Int) (r c : Int) : Int := if (if 0 ≤ G 1 (8 * r + c) - thrZ G r 1 then G 1 (8 * r + c) - thrZ G r 1 else 0 - (G 1 (8 * r + c) - thrZ G r 1)) < (if 0 ≤ G 1 (8 * r + c) - thrZ G r 0 then G 1 (8 * r + c) - thrZ G r 0 else 0 - (G 1 (8 * r + c) - thrZ G r 0)) then (if 0 ≤ G 1 (8 * r + c) - thrZ G r 1 then G 1 (8 * r + c) - thrZ G r 1 else 0 - (G 1 (8 * r + c) - thrZ G r 1)) else (if 0 ≤ G 1 (8 * r + c) - thrZ G r 0 then G 1 (8 * r + c) - thrZ G r 0 else 0 - (G 1 (8 * r + c) - thrZ G r 0))
def ioV (G : Nat → Int → Int) (r w : Int) : Int := if w = 2 then (if 0 < wrongZ G r then 1 else 0) else if sourceZ G r = w - 3 then 1 else 0
theorem io_01 (G : Nat → Int → Int) (r w : Int) : ioV G r w = 0 ∨ ioV G r w = 1 := by unfold ioV; omega
theorem src_0 (G : Nat → Int → Int) (r : Int) : (if sourceZ G r = 0 then 1 else 0 : Int) = rightZ G r := by
  have h := rightZ_01 G r
  unfold sourceZ
  omega
def soV (G : Nat → Int → Int) (w : Int) (n : Nat) : Int := bitsZ (fun r => ioV G r w) n
theorem bits_cong {f g : Int → Int} (h : ∀ r, f r = 0 ↔ g r = 0) : ∀ n : Nat, bitsZ f n = bitsZ g n := by
  intro n
  induction n with
  | zero => rfl
  | succ n ih =>
    simp only [bitsZ]
    rw [ih]
    by_cases c : f n = 0
    · rw [if_pos c, if_pos ((h n).mp c)]
    · rw [if_neg c, if_neg (fun q => c ((h n).mpr q))]
theorem so_2 (G : Nat → Int → Int) : soV G 2 6 = rowSetZ G := bits_cong (fun r => by have := wrongZ_bd G r; unfold ioV; omega) 6
theorem so_k (G : Nat → Int → Int) (w k : Int) (h : w ≠ 2) (hk : k = w - 3) : soV G w 6 = srcSetZ G k := by
  subst hk
  refine bits_cong (fun r => ?_) 6
  unfold ioV
  rw [if_neg h]
def aheadZ (G : Nat → Int → Int) (r : Int) (n : Nat) : Int := sumZ n (fun k => if wrongZ G r < wrongZ G k ∨ (wrongZ G k = wrongZ G r ∧ k < r) then 1 else 0)
theorem ahead_bd (G : Nat → Int → Int) (r : Int) (n : Nat) : 0 ≤ aheadZ G r n ∧ aheadZ G r n ≤ n := by
  have h := sumZ_bd (f := fun k => if wrongZ G r < wrongZ G k ∨ (wrongZ G k = wrongZ G r ∧ k < r) then 1 else 0) (M := 1) (fun c => by
    show 0 ≤ (if wrongZ G r < wrongZ G c ∨ (wrongZ G c = wrongZ G r ∧ c < r) then (1 : Int) else 0) ∧ (if wrongZ G r < wrongZ G c ∨ (wrongZ G c = wrongZ G r ∧ c < r) then (1 : Int) else 0) ≤ 1
    omega) n
  unfold aheadZ
  omega
/-- the row at a rank, as the reference finds it -/
def rankZ (G : Nat → Int → Int) (q : Int) : Nat → Int
  | 0 => -1000004
  | n + 1 => if aheadZ G n 6 = q then (n : Int) else rankZ G q n
theorem rank_bd (G : Nat → Int → Int) (q : Int) : ∀ n : Nat, n ≤ 6 → -1000004 ≤ rankZ G q n ∧ rankZ G q n ≤ 5 := by
  intro n
  induction n with
  | zero => intro _; exact ⟨(by decide : (-1000004 : Int) ≤ -1000004), (by decide : (-1000004 : Int) ≤ 5)⟩
  | succ n ih =>
    intro hn
    have := ih (by omega)
    simp only [rankZ]
    split <;> omega
theorem or_0 {a : Int} : iI a ||| iI 0 = iI a := by
  have h : iI 0 = 0 := iI_0
  rw [h]
  exact Int32.or_zero
def cntV (S : Nat → Int → Int) (w : Int) : Int := if w = 15 then S 4 0 else if w = 16 then S 6 0 else tallyV (gOf (S 0)) w
