/-! more values of a grid; bits -/
theorem z_asB {p : Program} {l : Launch} {e : Env} {R : Room} {s : State} {m : MethodId} {args : Array Value} {below : List Frame} {meth : Method} {c : Code} {H : Heap} {locs : List Loc} {cells slots : Nat} {Q : State → Prop} {pc : Nat} {ls : Array Slot} {rest : List Value} {x : Int32} {b : Int} (h : x = iI b) (k : W p l e R s m args below meth c H locs cells slots Q (F0 m pc ls (.int (iI b) :: rest))) : W p l e R s m args below meth c H locs cells slots Q (F0 m pc ls (.int x :: rest)) := by rw [h]; exact k
theorem mulb {a b : Int} (ha : 0 ≤ a ∧ a ≤ 1000) (hb : 0 ≤ b ∧ b ≤ 200) : 0 ≤ a * b ∧ a * b ≤ 200000 := by
  have h1 : a * b ≤ a * 200 := Int.mul_le_mul_of_nonneg_left hb.2 ha.1
  have h2 : 0 ≤ a * b := Int.mul_nonneg ha.1 hb.1
  omega
theorem age_bd {B : Int} {G : Nat → Int → Int} (hI : InvG B G) (r : Int) (h : 0 ≤ r ∧ r < 6) : 0 ≤ ageZ G r ∧ ageZ G r ≤ 10000000 := by
  have a := invG_7 hI r h.1 h.2
  have b := invG_d hI
  unfold ageZ
  omega
def bitsZ (f : Int → Int) : Nat → Int
  | 0 => 0
  | n + 1 => if f n = 0 then bitsZ f n else bitsZ f n + ((2 ^ n : Nat) : Int)
theorem bits_bd (f : Int → Int) : ∀ n : Nat, 0 ≤ bitsZ f n ∧ bitsZ f n < ((2 ^ n : Nat) : Int) := by
  intro n
  induction n with
  | zero => exact ⟨Int.le_refl _, by show (0 : Int) < 1; omega⟩
  | succ n ih =>
    have e : ((2 ^ (n + 1) : Nat) : Int) = 2 * ((2 ^ n : Nat) : Int) := by rw [Nat.pow_succ]; omega
    rw [e]
    show 0 ≤ (if f n = 0 then bitsZ f n else bitsZ f n + ((2 ^ n : Nat) : Int)) ∧ (if f n = 0 then bitsZ f n else bitsZ f n + ((2 ^ n : Nat) : Int)) < 2 * ((2 ^ n : Nat) : Int)
    split <;> omega
theorem bit_or_dec : ∀ n : Nat, n < 6 → ∀ a : Nat, a < 2 ^ n → iI (a : Int) ||| (iI 1 <<< (iI (n : Int) &&& 31)) = iI ((a : Int) + ((2 ^ n : Nat) : Int)) := by decide +kernel
theorem bit_or {a : Int} (n : Nat) (hn : n < 6) (ha : 0 ≤ a ∧ a < ((2 ^ n : Nat) : Int)) : iI a ||| (iI 1 <<< (iI (n : Int) &&& 31)) = iI (a + ((2 ^ n : Nat) : Int)) := by
  have h := bit_or_dec n hn a.toNat (by omega)
  have e : ((a.toNat : Nat) : Int) = a := by omega
  rw [e] at h
  exact h
def bitZ (t : Int) (n : Nat) : Int := t / ((2 ^ n : Nat) : Int) % 2
theorem bit_at_dec : ∀ n : Nat, n < 6 → ∀ a : Nat, a < 64 → (iI (a : Int) >>> (iI (n : Int) &&& 31)) &&& iI 1 = iI (bitZ (a : Int) n) := by decide +kernel
theorem bit_at {a : Int} (n : Nat) (hn : n < 6) (ha : 0 ≤ a ∧ a < 64) : (iI a >>> (iI (n : Int) &&& 31)) &&& iI 1 = iI (bitZ a n) := by
  have h := bit_at_dec n hn a.toNat (by omega)
  have e : ((a.toNat : Nat) : Int) = a := by omega
  rw [e] at h
  exact h
theorem bitZ_01 (t : Int) (n : Nat) : 0 ≤ bitZ t n ∧ bitZ t n ≤ 1 := by unfold bitZ; omega
theorem bit_set_dec : ∀ f : Nat, f < 6 → ∀ a : Nat, a < 64 → bitZ (a : Int) f = 0 → iI (a : Int) ||| (iI 1 <<< (iI (f : Int) &&& 31)) = iI ((a : Int) + ((2 ^ f : Nat) : Int)) := by decide +kernel
/-- the row with the most cells told wrong, but for a set: (row, how many) -/
def wbZ (G : Nat → Int → Int) (t : Int) : Nat → Int × Int
  | 0 => (0, -1)
  | n + 1 => if bitZ t n = 0 ∧ (wbZ G t n).2 < wrongZ G n then ((n : Int), wrongZ G n) else wbZ G t n
theorem wb_bd (G : Nat → Int → Int) (t : Int) : ∀ n : Nat, n ≤ 6 → (0 ≤ (wbZ G t n).1 ∧ (wbZ G t n).1 ≤ 5) ∧ (-1 ≤ (wbZ G t n).2 ∧ (wbZ G t n).2 ≤ 8) := by
  intro n
  induction n with
  | zero => intro _; exact ⟨⟨(by decide : (0 : Int) ≤ 0), (by decide : (0 : Int) ≤ 5)⟩, (by decide : (-1 : Int) ≤ -1), (by decide : (-1 : Int) ≤ 8)⟩
  | succ n ih =>
    intro hn
    have h := wrongZ_bd G n
    have h2 := ih (by omega)
    show (0 ≤ (if bitZ t n = 0 ∧ (wbZ G t n).2 < wrongZ G n then ((n : Int), wrongZ G n) else wbZ G t n).1 ∧ (if bitZ t n = 0 ∧ (wbZ G t n).2 < wrongZ G n then ((n : Int), wrongZ G n) else wbZ G t n).1 ≤ 5) ∧ (-1 ≤ (if bitZ t n = 0 ∧ (wbZ G t n).2 < wrongZ G n then ((n : Int), wrongZ G n) else wbZ G t n).2 ∧ (if bitZ t n = 0 ∧ (wbZ G t n).2 < wrongZ G n then ((n : Int), wrongZ G n) else wbZ G t n).2 ≤ 8)
    split
    · exact ⟨⟨by show (0 : Int) ≤ n; omega, by show (n : Int) ≤ 5; omega⟩, by show (-1 : Int) ≤ wrongZ G n; omega, by show wrongZ G n ≤ 8; omega⟩
    · exact h2
def rowSetZ (G : Nat → Int → Int) : Int := bitsZ (fun r => wrongZ G r) 6
def srcSetZ (G : Nat → Int → Int) (w : Int) : Int := bitsZ (fun r => if sourceZ G r = w then 1 else 0) 6
def pairsZ (G : Nat → Int → Int) (n : Nat) : Int := sumZ n (fun p => if G 10 p ≤ 0 then 0 else 1)
def ofLevelZ (G : Nat → Int → Int) (v : Int) (n : Nat) : Int := sumZ n (fun p => if G 0 p = v then 1 else 0)
def allWrongZ (G : Nat → Int → Int) (n : Nat) : Int := sumZ n (fun r => wrongZ G r)
def distZ (G : Nat → Int → Int) (n : Nat) : Int := sumZ n (fun p => if 0 ≤ G 1 p - aimZ (G 0 p) then G 1 p - aimZ (G 0 p) else 0 - (G 1 p - aimZ (G 0 p)))
def rightTZ (G : Nat → Int → Int) (n : Nat) : Int := sumZ n (fun p => G 10 (3 * p + p))
def badSetZ (w v : Int) : Int := if w = 0 then outZ v 300 700 else if w = 1 then outZ v 1 300 else outZ v 0 99
def cellV (G : Nat → Int → Int) (r c w : Int) : Int := if w = 0 then G 0 (8 * r + c) else if w = 1 then G 1 (8 * r + c) else if w = 2 then tellZ (G 1 (8 * r + c)) (thrZ G r 0) (thrZ G r 1) else if w = 3 then tellZ (G 1 (8 * r + c)) (ownZ G r 0) (ownZ G r 1) else if w = 4 then tellZ (G 1 (8 * r + c)) 300 700 else if w = 5 then G 2 (8 * r + c) else if w = 6 then (if (if 0 ≤ G 1 (8 * r + c) - thrZ G r 1 then G 1 (8 * r + c) - thrZ G r 1 else 0 - (G 1 (8 * r + c) - thrZ G r 1)) < (if 0 ≤ G 1 (8 * r + c) - thrZ G r 0 then G 1 (8 * r + c) - thrZ G r 0 else 0 - (G 1 (8 * r + c) - thrZ G r 0)) then (if 0 ≤ G 1 (8 * r + c) - thrZ G r 1 then G 1 (8 * r + c) - thrZ G r 1 else 0 - (G 1 (8 * r + c) - thrZ G r 1)) else (if 0 ≤ G 1 (8 * r + c) - thrZ G r 0 then G 1 (8 * r + c) - thrZ G r 0 else 0 - (G 1 (8 * r + c) - thrZ G r 0))) else if w = 7 then G 12 0 - G 3 (8 * r + c) else -1000001
def guardV (G : Nat → Int → Int) (r g w : Int) : Int := if w = 0 then G 4 (3 * r + g) else if w = 1 then G 5 (3 * r + g) else -1000001
def rowV (G : Nat → Int → Int) (r w : Int) : Int := if w = 0 then ownZ G r 0 else if w = 1 then ownZ G r 1 else if w = 2 then rightZ G r else if w = 3 then sourceZ G r else if w = 4 then thrZ G r 0 else if w = 5 then thrZ G r 1 else if w = 6 then wrongZ G r else if w = 7 then wrongByZ G r 300 700 8 else if w = 8 then G 6 r else if w = 9 then ageZ G r else if w = 10 then toldWordZ G r else if w = 11 then levelWordZ G r else if w = 12 then G 8 r else if w = 13 then G 9 r else -1000001
def tallyV (G : Nat → Int → Int) (w : Int) : Int := if w = 0 then G 12 0 else if w = 1 then allWrongZ G 6 else if w = 2 then rowSetZ G else if w = 3 then srcSetZ G 0 else if w = 4 then srcSetZ G 1 else if w = 5 then srcSetZ G 2 else if w = 6 then sumZ 18 (G 5) else if w = 7 then sumZ 6 (G 8) else if w = 8 then sumZ 48 (G 2) - 48 else if w = 9 then sumZ 6 (G 9) else if w = 10 then sumZ 9 (G 10) else if w = 11 then pairsZ G 9 else if w = 12 then ofLevelZ G 0 48 else if w = 13 then ofLevelZ G 1 48 else if w = 14 then ofLevelZ G 2 48 else if w = 20 then G 11 0 else if w = 21 then G 11 1 else if w = 22 then G 11 2 else -1000001
def askZ (G : Nat → Int → Int) (r c : Int) : Nat → Int → Int := upG G 10 (3 * G 0 (8 * r + c) + toldZ G r c) (G 10 (3 * G 0 (8 * r + c) + toldZ G r c) + 1)
theorem told_bd (G : Nat → Int → Int) (r c : Int) : 0 ≤ toldZ G r c ∧ toldZ G r c ≤ 2 := tellZ_01 _ _ _
