/-! the text of orders: T 0 its signs, T 1 0 its length, T 2 0 the kind read last, T 3 the numbers, T 4 0 the place reached -/
def InvT (T : Nat → Int → Int) : Prop := (0 ≤ T 1 0 ∧ T 1 0 ≤ 60) ∧ (∀ p : Int, 0 ≤ p → p < 60 → 0 ≤ T 0 p ∧ T 0 p ≤ 126)
def chrZ (F : Int → Int) (len i : Int) : Int := if i < 0 ∨ len - 1 < i then 0 else F i
theorem chr_bd {T : Nat → Int → Int} (h : InvT T) (i : Int) : 0 ≤ chrZ (T 0) (T 1 0) i ∧ chrZ (T 0) (T 1 0) i ≤ 126 := by
  unfold chrZ
  split
  · omega
  · have h1 := h.1
    exact h.2 i (by omega) (by omega)
def digZ (k : Int) : Int := if 48 ≤ k ∧ k ≤ 57 then 1 else 0
theorem dig_01 (k : Int) : digZ k = 0 ∨ digZ k = 1 := by unfold digZ; omega
def nosZ (k : Int) : Int := if k = 97 then 1 else if k = 100 then 1 else if k = 102 then 3 else if k = 109 then 2 else if k = 114 then 2 else if k = 119 then 3 else 0
theorem nos_bd (k : Int) : 0 ≤ nosZ k ∧ nosZ k ≤ 3 := by unfold nosZ; omega
abbrev atZ (T : Nat → Int → Int) (i : Int) : Int := chrZ (T 0) (T 1 0) i
/-- a number is read at the place reached -/
def rnZ (T : Nat → Int → Int) (w : Int) : Nat → Int → Int :=
  if digZ (chrZ (T 0) (T 1 0) (T 4 0)) = 0 then T
  else if digZ (chrZ (T 0) (T 1 0) (T 4 0 + 1)) = 0 then upG (upG T 4 0 (T 4 0 + 1)) 3 w (10 * 0 + (chrZ (T 0) (T 1 0) (T 4 0) - 48))
  else if digZ (chrZ (T 0) (T 1 0) (T 4 0 + 1 + 1)) = 0 then upG (upG T 4 0 (T 4 0 + 1 + 1)) 3 w (10 * (10 * 0 + (chrZ (T 0) (T 1 0) (T 4 0) - 48)) + (chrZ (T 0) (T 1 0) (T 4 0 + 1) - 48))
  else upG (upG T 4 0 (T 4 0 + 1 + 1 + 1)) 3 w (10 * (10 * (10 * 0 + (chrZ (T 0) (T 1 0) (T 4 0) - 48)) + (chrZ (T 0) (T 1 0) (T 4 0 + 1) - 48)) + (chrZ (T 0) (T 1 0) (T 4 0 + 1 + 1) - 48))
theorem rn_k (T : Nat → Int → Int) (w : Int) (k : Nat) (h3 : k ≠ 3) (h4 : k ≠ 4) : rnZ T w k = T k := by
  unfold rnZ
  repeat' split
  all_goals first | rfl | (unfold upG; rw [if_neg h3, if_neg h4])
theorem rn_inv {T : Nat → Int → Int} (h : InvT T) (w : Int) : InvT (rnZ T w) := by
  unfold InvT
  rw [rn_k T w 0 (by omega) (by omega), rn_k T w 1 (by omega) (by omega)]
  exact h
theorem rn_4 (T : Nat → Int → Int) (w : Int) : T 4 0 ≤ rnZ T w 4 0 ∧ rnZ T w 4 0 ≤ T 4 0 + 3 := by
  unfold rnZ
  repeat' split
  · omega
  · show T 4 0 ≤ T 4 0 + 1 ∧ T 4 0 + 1 ≤ T 4 0 + 3; omega
  · show T 4 0 ≤ T 4 0 + 1 + 1 ∧ T 4 0 + 1 + 1 ≤ T 4 0 + 3; omega
  · show T 4 0 ≤ T 4 0 + 1 + 1 + 1 ∧ T 4 0 + 1 + 1 + 1 ≤ T 4 0 + 3; omega
def rnV (T : Nat → Int → Int) : Int := if digZ (chrZ (T 0) (T 1 0) (T 4 0)) = 0 then 0 else 1
/-- a number and its sign behind it -/
def stV (T : Nat → Int → Int) (w sep : Int) : Int := if rnV T = 0 then 0 else if chrZ (rnZ T w 0) (rnZ T w 1 0) (rnZ T w 4 0) = sep then 1 else 0
def stT (T : Nat → Int → Int) (w sep : Int) : Nat → Int → Int := if rnV T = 0 then rnZ T w else if chrZ (rnZ T w 0) (rnZ T w 1 0) (rnZ T w 4 0) = sep then upG (rnZ T w) 4 0 (rnZ T w 4 0 + 1) else rnZ T w
def ro1 (T : Nat → Int → Int) (q : Int) : Nat → Int → Int := upG (upG T 4 0 q) 2 0 (chrZ (T 0) (T 1 0) q)
def ro2 (T : Nat → Int → Int) (q : Int) : Nat → Int → Int := upG (upG T 2 0 (chrZ (T 0) (T 1 0) q)) 4 0 (q + 1)
def roV (T : Nat → Int → Int) (q : Int) : Int :=
  if nosZ (chrZ (T 0) (T 1 0) q) = 0 then 0
  else if nosZ (chrZ (T 0) (T 1 0) q) = 1 then stV (ro2 T q) 0 59
  else if nosZ (chrZ (T 0) (T 1 0) q) = 2 then (if stV (ro2 T q) 0 44 = 0 then 0 else stV (stT (ro2 T q) 0 44) 1 59)
  else (if stV (ro2 T q) 0 44 = 0 then 0 else if stV (stT (ro2 T q) 0 44) 1 44 = 0 then 0 else stV (stT (stT (ro2 T q) 0 44) 1 44) 2 59)
def roT (T : Nat → Int → Int) (q : Int) : Nat → Int → Int :=
  if nosZ (chrZ (T 0) (T 1 0) q) = 0 then ro1 T q
  else if nosZ (chrZ (T 0) (T 1 0) q) = 1 then stT (ro2 T q) 0 59
  else if nosZ (chrZ (T 0) (T 1 0) q) = 2 then (if stV (ro2 T q) 0 44 = 0 then stT (ro2 T q) 0 44 else stT (stT (ro2 T q) 0 44) 1 59)
  else (if stV (ro2 T q) 0 44 = 0 then stT (ro2 T q) 0 44 else if stV (stT (ro2 T q) 0 44) 1 44 = 0 then stT (stT (ro2 T q) 0 44) 1 44 else stT (stT (stT (ro2 T q) 0 44) 1 44) 2 59)
/-! what a change answers and makes, for any arguments -/
def wlV (G : Nat → Int → Int) (r c v : Int) : Int := if 0 ≤ r ∧ r < 6 ∧ 0 ≤ c ∧ c < 8 ∧ 0 ≤ v ∧ v < 3 then putZ G (8 * r + c) v 1 (8 * r + c) else -1000001
def wlG (G : Nat → Int → Int) (r c v : Int) : Nat → Int → Int := if 0 ≤ r ∧ r < 6 ∧ 0 ≤ c ∧ c < 8 ∧ 0 ≤ v ∧ v < 3 then putZ G (8 * r + c) v else G
def wwV (G : Nat → Int → Int) (r w : Int) : Int := if 0 ≤ r ∧ r < 6 ∧ 0 ≤ w ∧ w ≤ 6560 then toldWordZ G r else -1000001
def wwG (G : Nat → Int → Int) (r w : Int) : Nat → Int → Int := if 0 ≤ r ∧ r < 6 ∧ 0 ≤ w ∧ w ≤ 6560 then wordStZ G r w 8 else G
def waV (G : Nat → Int → Int) (r : Int) : Int := if 0 ≤ r ∧ r < 6 then lostAnewZ G r else -1000001
def waG (G : Nat → Int → Int) (r : Int) : Nat → Int → Int := if 0 ≤ r ∧ r < 6 then writeAnewZ G r else G
def acV (G : Nat → Int → Int) (r c : Int) : Int := if 0 ≤ r ∧ r < 6 ∧ 0 ≤ c ∧ c < 8 then toldZ G r c else -1000001
def acG (G : Nat → Int → Int) (r c : Int) : Nat → Int → Int := if 0 ≤ r ∧ r < 6 ∧ 0 ≤ c ∧ c < 8 then askZ G r c else G
def fgV (G : Nat → Int → Int) (r g v : Int) : Int := if 0 ≤ r ∧ r < 6 ∧ 0 ≤ g ∧ g < 3 ∧ 0 ≤ v ∧ v ≤ 999 then (if G 5 (3 * r + g) = 0 then G 4 (3 * r + g) else -1000002) else -1000001
def fgG (G : Nat → Int → Int) (r g v : Int) : Nat → Int → Int := if 0 ≤ r ∧ r < 6 ∧ 0 ≤ g ∧ g < 3 ∧ 0 ≤ v ∧ v ≤ 999 then (if G 5 (3 * r + g) = 0 then upG (upG G 5 (3 * r + g) 1) 4 (3 * r + g) v else G) else G
def mgV (G : Nat → Int → Int) (r g : Int) : Int := if 0 ≤ r ∧ r < 6 ∧ 0 ≤ g ∧ g < 3 then (if G 5 (3 * r + g) = 0 then -1000002 else G 4 (3 * r + g)) else -1000001
def mgG (G : Nat → Int → Int) (r g : Int) : Nat → Int → Int := if 0 ≤ r ∧ r < 6 ∧ 0 ≤ g ∧ g < 3 then (if G 5 (3 * r + g) = 0 then G else upG G 5 (3 * r + g) 0) else G
def crV (G : Nat → Int → Int) (r v : Int) : Int := if 0 ≤ r ∧ r < 6 ∧ 1 ≤ v ∧ v ≤ 200 then G 6 r else -1000001
def crG (G : Nat → Int → Int) (r v : Int) : Nat → Int → Int := if 0 ≤ r ∧ r < 6 ∧ 1 ≤ v ∧ v ≤ 200 then upG G 6 r v else G
def pdV (G : Nat → Int → Int) (n last : Int) : Int := if 1 ≤ n ∧ n ≤ 99 then (if last - n < G 12 0 then -1000003 else daysLostZ G n.toNat) else -1000001
def pdG (G : Nat → Int → Int) (n last : Int) : Nat → Int → Int := if 1 ≤ n ∧ n ≤ 99 then (if last - n < G 12 0 then G else daysStZ G n.toNat) else G
def csV (G : Nat → Int → Int) (w v : Int) : Int := if 0 ≤ w ∧ w < 3 ∧ badSetZ w v = 0 then G 11 w else -1000001
def csG (G : Nat → Int → Int) (w v : Int) : Nat → Int → Int := if 0 ≤ w ∧ w < 3 ∧ badSetZ w v = 0 then upG G 11 w v else G
/-- an order that is read is done -/
def doV (G : Nat → Int → Int) (k a b d : Int) : Int := if k = 97 then waV G a else if k = 100 then pdV G a 9999 else if k = 102 then fgV G a b d else if k = 109 then mgV G a b else if k = 114 then crV G a b else if k = 119 then wlV G a b d else -1000001
def doG (G : Nat → Int → Int) (k a b d : Int) : Nat → Int → Int := if k = 97 then waG G a else if k = 100 then pdG G a 9999 else if k = 102 then fgG G a b d else if k = 109 then mgG G a b else if k = 114 then crG G a b else if k = 119 then wlG G a b d else G
theorem st_01 (T : Nat → Int → Int) (w sep : Int) : stV T w sep = 0 ∨ stV T w sep = 1 := by unfold stV; omega
theorem ro_01 (T : Nat → Int → Int) (q : Int) : roV T q = 0 ∨ roV T q = 1 := by
  unfold roV
  have h1 := st_01 (ro2 T q) 0 59
  have h2 := st_01 (stT (ro2 T q) 0 44) 1 59
  have h3 := st_01 (stT (stT (ro2 T q) 0 44) 1 44) 2 59
  omega
