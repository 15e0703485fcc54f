/-! floats: normal positive ones, c * 2^q -/
abbrev fB (c : Nat) (q : Int) : UInt32 := FP.Core.of32 (.fin false c q)
def fN (c : Nat) (q : Int) : Prop := 8388608 ≤ c ∧ c < 16777216 ∧ -148 ≤ q ∧ q ≤ 100
theorem b_qmin : FP.Core.b32.qmin = -149 := by decide +kernel
theorem b_qmax : FP.Core.b32.qmax = 104 := by decide +kernel
theorem b_tails : FP.Core.b32.tails = 8388608 := by decide +kernel
theorem b_exps : FP.Core.b32.exps = 256 := by decide +kernel
theorem fit_of {c : Nat} {q : Int} (h1 : c < 16777216) (h2 : -149 ≤ q ∧ q ≤ 104) (h3 : q = -149 ∨ 8388608 ≤ c) : FP.Core.fits FP.Core.b32 (.fin false c q) := by
  show c < 2 ^ 24 ∧ FP.Core.b32.qmin ≤ q ∧ q ≤ FP.Core.b32.qmax ∧ (q = FP.Core.b32.qmin ∨ FP.Core.b32.tails ≤ c)
  rw [b_qmin, b_qmax, b_tails, show (2 : Nat) ^ 24 = 16777216 by decide +kernel]
  exact ⟨h1, h2.1, h2.2, h3⟩
theorem fB_fits {c : Nat} {q : Int} (h : fN c q) : FP.Core.fits FP.Core.b32 (.fin false c q) := by
  unfold fN at h
  exact fit_of (by omega) (by omega) (by omega)
theorem fB_val {c : Nat} {q : Int} (h : fN c q) : FP.Core.val32 (fB c q) = .fin false c q := FP.Core.val32_of32 (fB_fits h)
theorem enc_nat {c : Nat} {q : Int} (h1 : 8388608 ≤ c) (h2 : c < 16777216) (h3 : -149 ≤ q ∧ q ≤ 104) : (fB c q).toNat = (q + 150).toNat * 8388608 + (c - 8388608) := by
  have e1 : FP.Core.encode FP.Core.b32 (.fin false c q) = (q + 150).toNat * 8388608 + (c - 8388608) := by
    show (if c < FP.Core.b32.tails then FP.Core.assemble FP.Core.b32 false 0 c else FP.Core.assemble FP.Core.b32 false ((q - FP.Core.b32.qmin).toNat + 1) (c - FP.Core.b32.tails)) = _
    rw [b_tails, b_qmin, if_neg (by omega)]
    show ((false).toNat * FP.Core.b32.exps + ((q - -149).toNat + 1)) * FP.Core.b32.tails + (c - 8388608) = _
    rw [b_tails, show (false).toNat = 0 from rfl, Nat.zero_mul, Nat.zero_add, show (q - -149).toNat + 1 = (q + 150).toNat by omega]
  show (UInt32.ofNat (FP.Core.encode FP.Core.b32 (.fin false c q))).toNat = _
  rw [e1]
  exact UInt32.toNat_ofNat_of_lt' (by show _ < 4294967296; omega)
theorem n32_of {x : UInt32} (h : x.toNat ≤ 2139095040) : vf_n32 x := by
  unfold vf_n32
  rw [UInt32.le_iff_toNat_le, UInt32.toNat_and]
  exact Nat.le_trans Nat.and_le_left h
theorem fB_n32 {c : Nat} {q : Int} (h1 : 8388608 ≤ c) (h2 : c < 16777216) (h3 : -149 ≤ q ∧ q ≤ 104) : vf_n32 (fB c q) := n32_of (by rw [enc_nat h1 h2 h3]; omega)
theorem fc_val (x y : UInt32) : FP.fcmp x y = FP.Core.order (FP.Core.val32 x) (FP.Core.val32 y) := rfl
theorem val_c2 : FP.Core.val32 FP.fconst2 = .fin false 8388608 (-22) := by decide +kernel
theorem val_c1 : FP.Core.val32 FP.fconst1 = .fin false 8388608 (-23) := by decide +kernel
theorem val_c0 : FP.Core.val32 FP.fconst0 = .fin false 0 (-149) := by decide +kernel
theorem val_23 : FP.Core.val32 1258291200 = .fin false 8388608 0 := by decide +kernel
theorem ord_ff (c d : Nat) (q r : Int) : FP.Core.order (.fin false c q) (.fin false d r) = some (compare ((c * 2 ^ (q - min q r).toNat : Nat) : Int) ((d * 2 ^ (r - min q r).toNat : Nat) : Int)) := rfl
theorem cmp_ge {a b : Int} (h : b ≤ a) (op : CmpOp) : ∃ v : Int, (0 ≤ v ∧ v ≤ 1) ∧ Op.cmpValue (some (compare a b)) op = iI v := by
  by_cases e : a = b
  · subst e
    exact ⟨0, by omega, by rw [show compare a a = .eq from Int.compare_eq_eq.mpr rfl]; cases op <;> decide +kernel⟩
  · exact ⟨1, by omega, by rw [show compare a b = .gt from Int.compare_eq_gt.mpr (by omega)]; cases op <;> decide +kernel⟩
theorem cmp_lt {a b : Int} (h : a < b) (op : CmpOp) : Op.cmpValue (some (compare a b)) op = iI (-1) := by
  rw [show compare a b = .lt from Int.compare_eq_lt.mpr h]
  cases op <;> decide +kernel
theorem cmp_gt {a b : Int} (h : b < a) (op : CmpOp) : Op.cmpValue (some (compare a b)) op = iI 1 := by
  rw [show compare a b = .gt from Int.compare_eq_gt.mpr h]
  cases op <;> decide +kernel
theorem cmp_eq {a b : Int} (h : a = b) (op : CmpOp) : Op.cmpValue (some (compare a b)) op = iI 0 := by
  rw [show compare a b = .eq from Int.compare_eq_eq.mpr h]
  cases op <;> decide +kernel
theorem f_gt0 {c : Nat} {q : Int} (h : fN c q) (op : CmpOp) : Op.cmpValue (FP.fcmp (fB c q) FP.fconst0) op = iI 1 := by
  rw [fc_val, fB_val h, val_c0, ord_ff]
  unfold fN at h
  refine cmp_gt ?_ op
  have hp := Nat.two_pow_pos (q - min q (-149)).toNat
  have h2 : 0 < c * 2 ^ (q - min q (-149)).toNat := Nat.mul_pos (by omega) hp
  omega
theorem f_00 (op : CmpOp) : Op.cmpValue (FP.fcmp 0 FP.fconst0) op = iI 0 := by cases op <;> decide +kernel
theorem f_ge {c : Nat} {q r : Int} {x : UInt32} (hx : FP.Core.val32 x = .fin false 8388608 r) (h : fN c q) (hq : r ≤ q) (op : CmpOp) : ∃ v : Int, (0 ≤ v ∧ v ≤ 1) ∧ Op.cmpValue (FP.fcmp (fB c q) x) op = iI v := by
  rw [fc_val, fB_val h, hx, ord_ff]
  unfold fN at h
  refine cmp_ge ?_ op
  rw [show (r - min q r).toNat = 0 by omega, Nat.pow_zero, Nat.mul_one]
  have hp := Nat.two_pow_pos (q - min q r).toNat
  have h2 : c * 1 ≤ c * 2 ^ (q - min q r).toNat := Nat.mul_le_mul_left c hp
  omega
theorem f_lt {c : Nat} {q r : Int} {x : UInt32} (hx : FP.Core.val32 x = .fin false 8388608 r) (h : fN c q) (hq : q < r) (op : CmpOp) : Op.cmpValue (FP.fcmp (fB c q) x) op = iI (-1) := by
  rw [fc_val, fB_val h, hx, ord_ff]
  unfold fN at h
  refine cmp_lt ?_ op
  obtain ⟨k, hk⟩ : ∃ k : Nat, (r - min q r).toNat = k + 1 := ⟨(r - min q r).toNat - 1, by omega⟩
  rw [show (q - min q r).toNat = 0 by omega, hk, Nat.pow_zero, Nat.mul_one, Nat.pow_succ]
  have hp := Nat.two_pow_pos k
  have h2 : 8388608 * 2 ≤ 8388608 * (2 ^ k * 2) := by omega
  omega
theorem v_of {x : UInt32} {d : FP.Core.Datum} (h : FP.Core.val32 x = d) (hn : d ≠ .nan) : x = FP.Core.of32 d := by
  rw [← h]; exact (FP.Core.of32_val32 (by rw [h]; exact hn)).symm
theorem fin_nn {c : Nat} {q : Int} : FP.Core.Datum.fin false c q ≠ .nan := by intro h; cases h
theorem quo_ff (s t : Bool) (c d : Nat) (q r : Int) (h : d ≠ 0) : FP.Core.quotient FP.Core.b32 (.fin s c q) (.fin t d r) = FP.Core.roundRatio FP.Core.b32 (s != t) c d (q - r) := by
  show (if d = 0 then (if c = 0 then FP.Core.Datum.nan else .inf (s != t)) else FP.Core.roundRatio FP.Core.b32 (s != t) c d (q - r)) = _
  exact if_neg h
theorem f_half {c : Nat} {q : Int} (h : fN c q) (h2 : -147 ≤ q) : FP.fdiv (fB c q) FP.fconst2 = fB c (q - 1) := by
  refine v_of ?_ fin_nn
  unfold fN at h
  rw [show FP.fdiv (fB c q) FP.fconst2 = FP.Core.fdiv (fB c q) FP.fconst2 from rfl, FP.Core.val32_fdiv, fB_val h, val_c2, quo_ff _ _ _ _ _ _ (by omega)]
  refine FP.Core.roundRatio_exact FP.Core.good_b32 (by omega) (fit_of (by omega) (by omega) (by omega)) ?_
  rw [show (q - -22 - (q - 1)).toNat = 23 by omega, show (q - 1 - (q - -22)).toNat = 0 by omega]
  omega
theorem f_dbl {c : Nat} {q : Int} (h : fN c q) (h2 : q ≤ 99) : FP.fmul (fB c q) FP.fconst2 = fB c (q + 1) := by
  refine v_of ?_ fin_nn
  unfold fN at h
  rw [show FP.fmul (fB c q) FP.fconst2 = FP.Core.fmul (fB c q) FP.fconst2 from rfl, FP.Core.val32_fmul, fB_val h, val_c2]
  show FP.Core.roundRatio FP.Core.b32 (false != false) (c * 8388608) 1 (q + -22) = _
  refine FP.Core.roundRatio_exact FP.Core.good_b32 (by omega) (fit_of (by omega) (by omega) (by omega)) ?_
  rw [show (q + -22 - (q + 1)).toNat = 0 by omega, show (q + 1 - (q + -22)).toNat = 23 by omega]
  omega

/-- what is above 1, as a fraction of 2^23 -/
theorem pow_fit : ∀ t : Nat, 0 < t → t < 16777216 → ∃ k : Nat, k ≤ 23 ∧ 8388608 ≤ t * 2 ^ k ∧ t * 2 ^ k < 16777216 := by
  intro t h0 h1
  have a1 : 2 ^ t.log2 ≤ t := Nat.log2_self_le (by omega)
  have a2 : t < 2 ^ (t.log2 + 1) := Nat.lt_log2_self
  have h3 : t.log2 < 24 := by
    rcases Nat.lt_or_ge t.log2 24 with h | h
    · exact h
    · have := Nat.pow_le_pow_right (n := 2) (by omega) h
      rw [show (2 : Nat) ^ 24 = 16777216 by decide +kernel] at this
      omega
  refine ⟨23 - t.log2, by omega, ?_, ?_⟩
  · have h4 : 2 ^ t.log2 * 2 ^ (23 - t.log2) = 8388608 := by
      rw [← Nat.pow_add, show t.log2 + (23 - t.log2) = 23 by omega]
    rw [← h4]
    exact Nat.mul_le_mul_right _ a1
  · have h4 : 2 ^ (t.log2 + 1) * 2 ^ (23 - t.log2) = 16777216 := by
      rw [← Nat.pow_add, show t.log2 + 1 + (23 - t.log2) = 24 by omega]
    rw [← h4]
    exact Nat.mul_lt_mul_of_pos_right a2 (Nat.two_pow_pos _)
theorem rnd_exact {A c : Nat} {e q : Int} (h1 : c < 16777216) (h2 : -149 ≤ q ∧ q ≤ 104) (h3 : q = -149 ∨ 8388608 ≤ c) (h : A * 2 ^ (e - q).toNat = c * 2 ^ (q - e).toNat) : FP.Core.round FP.Core.b32 (.fin false A e) = .fin false c q := by
  show FP.Core.roundRatio FP.Core.b32 false A 1 e = _
  exact FP.Core.roundRatio_exact FP.Core.good_b32 (by omega) (fit_of h1 h2 h3) (by rw [Nat.mul_one]; exact h)
theorem toI_t {c t k : Nat} (h : c = t * 2 ^ k) (ht : t < 16777216) : FP.Core.toI (.fin false c (-(k : Int))) = iI (t : Int) := by
  have h1 : FP.Core.truncate false c (-(k : Int)) = (t : Int) := by
    show ((c * 2 ^ (-(k : Int)).toNat / 2 ^ (-(-(k : Int))).toNat : Nat) : Int) = (t : Int)
    rw [show (-(k : Int)).toNat = 0 by omega, show (-(-(k : Int))).toNat = k by omega, Nat.pow_zero, Nat.mul_one, h, Nat.mul_div_cancel _ (Nat.two_pow_pos k)]
  show Int32.ofInt (max (-2 ^ 31) (min (2 ^ 31 - 1) (FP.Core.truncate false c (-(k : Int))))) = Int32.ofInt (t : Int)
  rw [h1]
  congr 1
  have e1 : (-2 ^ 31 : Int) = -2147483648 := by decide +kernel
  have e2 : (2 ^ 31 - 1 : Int) = 2147483647 := by decide +kernel
  rw [e1, e2]
  omega
theorem f_frac {c : Nat} (h1 : 8388608 ≤ c) (h2 : c < 16777216) : vf_n32 (FP.fsub (fB c (-23)) FP.fconst1) ∧ vf_n32 (FP.fmul (FP.fsub (fB c (-23)) FP.fconst1) 1258291200) ∧ FP.f2i (FP.fmul (FP.fsub (fB c (-23)) FP.fconst1) 1258291200) = iI (((c - 8388608 : Nat) : Int)) := by
  have hN : fN c (-23) := by unfold fN; omega
  have e1 : FP.Core.val32 (FP.fsub (fB c (-23)) FP.fconst1) = FP.Core.round FP.Core.b32 (.fin false (c - 8388608) (-23)) := by
    rw [show FP.fsub (fB c (-23)) FP.fconst1 = FP.Core.fsub (fB c (-23)) FP.fconst1 from rfl, FP.Core.val32_fsub, fB_val hN, val_c1]
    show FP.Core.round FP.Core.b32 (.fin (FP.Core.sumSign false true (((c * 2 ^ 0 : Nat) : Int) + -((8388608 * 2 ^ 0 : Nat) : Int))) (((c * 2 ^ 0 : Nat) : Int) + -((8388608 * 2 ^ 0 : Nat) : Int)).natAbs (-23)) = _
    rw [Nat.pow_zero, Nat.mul_one, Nat.mul_one, show ((c : Nat) : Int) + -((8388608 : Nat) : Int) = ((c - 8388608 : Nat) : Int) by omega, Int.natAbs_natCast]
    have hs : FP.Core.sumSign false true ((c - 8388608 : Nat) : Int) = false := by
      unfold FP.Core.sumSign
      split
      · rfl
      · exact decide_eq_false (by omega)
    rw [hs]
  have ht : c - 8388608 < 8388608 := by omega
  generalize c - 8388608 = t at *
  by_cases h0 : t = 0
  · subst h0
    rw [rnd_exact (c := 0) (q := -149) (by omega) (by omega) (Or.inl rfl) (by rw [Nat.zero_mul, Nat.zero_mul])] at e1
    have e2 : FP.fsub (fB c (-23)) FP.fconst1 = 0 := (v_of e1 fin_nn).trans (by decide +kernel)
    rw [e2]
    exact ⟨n32_of (by decide +kernel), n32_of (by decide +kernel), by decide +kernel⟩
  · obtain ⟨k, k1, k2, k3⟩ := pow_fit t (by omega) (by omega)
    obtain ⟨c', hc'⟩ : ∃ c', c' = t * 2 ^ k := ⟨_, rfl⟩
    rw [← hc'] at k2 k3
    rw [rnd_exact (c := c') (q := -23 - (k : Int)) k3 (by omega) (Or.inr k2) (by rw [show ((-23 : Int) - (-23 - (k : Int))).toNat = k by omega, show (-23 - (k : Int) - -23).toNat = 0 by omega, Nat.pow_zero, Nat.mul_one, hc'])] at e1
    have e2 := v_of e1 fin_nn
    rw [e2]
    have hN2 : fN c' (-23 - (k : Int)) := by unfold fN; omega
    have e3 : FP.Core.val32 (FP.fmul (fB c' (-23 - (k : Int))) 1258291200) = .fin false c' (-(k : Int)) := by
      rw [show FP.fmul (fB c' (-23 - (k : Int))) 1258291200 = FP.Core.fmul (fB c' (-23 - (k : Int))) 1258291200 from rfl, FP.Core.val32_fmul, fB_val hN2, val_23]
      show FP.Core.round FP.Core.b32 (.fin (false != false) (c' * 8388608) (-23 - (k : Int) + 0)) = _
      refine rnd_exact k3 (by omega) (Or.inr k2) ?_
      rw [show (-23 - (k : Int) + 0 - -(k : Int)).toNat = 0 by omega, show (-(k : Int) - (-23 - (k : Int) + 0)).toNat = 23 by omega]
      omega
    refine ⟨fB_n32 k2 k3 (by omega), ?_, ?_⟩
    · rw [v_of e3 fin_nn]; exact fB_n32 k2 k3 (by omega)
    · show FP.Core.toI (FP.Core.val32 (FP.fmul (fB c' (-23 - (k : Int))) 1258291200)) = _
      rw [e3]
      exact toI_t hc' (by omega)
/-- a whole number as a float: its value -/
theorem i2f_val {a : Int} (h : 0 ≤ a ∧ a < 16777216) : ∃ (c : Nat) (q : Int), FP.Core.val32 (FP.i2f (iI a)) = .fin false c q ∧ (-149 ≤ q ∧ q ≤ 0) ∧ c * 2 ^ (q + 149).toNat = a.toNat * 2 ^ 149 := by
  have e1 : FP.Core.val32 (FP.i2f (iI a)) = FP.Core.round FP.Core.b32 (.fin false a.toNat 0) := by
    rw [show FP.i2f (iI a) = FP.Core.i2f (iI a) from rfl, FP.Core.val32_i2f, iI_t (by omega)]
    show FP.Core.round FP.Core.b32 (.fin (decide (a < 0)) a.natAbs 0) = _
    rw [show decide (a < 0) = false from decide_eq_false (by omega), show a.natAbs = a.toNat by omega]
  by_cases h0 : a = 0
  · refine ⟨0, -149, ?_, by omega, ?_⟩
    · rw [e1, h0]
      exact rnd_exact (by omega) (by omega) (Or.inl rfl) (by rw [show (0 : Int).toNat = 0 by omega, Nat.zero_mul, Nat.zero_mul])
    · rw [h0, Nat.zero_mul, show (0 : Int).toNat = 0 by omega, Nat.zero_mul]
  · obtain ⟨k, k1, k2, k3⟩ := pow_fit a.toNat (by omega) (by omega)
    refine ⟨a.toNat * 2 ^ k, -(k : Int), ?_, by omega, ?_⟩
    · rw [e1]
      refine rnd_exact k3 (by omega) (Or.inr k2) ?_
      rw [show ((0 : Int) - -(k : Int)).toNat = k by omega, show (-(k : Int) - 0).toNat = 0 by omega, Nat.pow_zero, Nat.mul_one]
    · rw [Nat.mul_assoc, ← Nat.pow_add, show k + (-(k : Int) + 149).toNat = 149 by omega]
theorem i2f_n {a : Int} (h : 0 < a ∧ a < 16777216) : ∃ (c : Nat) (q : Int), FP.Core.val32 (FP.i2f (iI a)) = .fin false c q ∧ (-23 ≤ q ∧ q ≤ 0) ∧ 8388608 ≤ c ∧ c < 16777216 := by
  have e1 : FP.Core.val32 (FP.i2f (iI a)) = FP.Core.round FP.Core.b32 (.fin false a.toNat 0) := by
    rw [show FP.i2f (iI a) = FP.Core.i2f (iI a) from rfl, FP.Core.val32_i2f, iI_t (by omega)]
    show FP.Core.round FP.Core.b32 (.fin (decide (a < 0)) a.natAbs 0) = _
    rw [show decide (a < 0) = false from decide_eq_false (by omega), show a.natAbs = a.toNat by omega]
  obtain ⟨k, k1, k2, k3⟩ := pow_fit a.toNat (by omega) (by omega)
  refine ⟨a.toNat * 2 ^ k, -(k : Int), ?_, by omega, k2, k3⟩
  rw [e1]
  refine rnd_exact k3 (by omega) (Or.inr k2) ?_
  rw [show ((0 : Int) - -(k : Int)).toNat = k by omega, show (-(k : Int) - 0).toNat = 0 by omega, Nat.pow_zero, Nat.mul_one]
theorem i2f_0 : FP.Core.val32 (FP.i2f (iI 0)) = .fin false 0 (-149) := by decide +kernel
theorem val_48 : FP.Core.val32 1111490560 = .fin false 12582912 (-18) := by decide +kernel
theorem b_p : (FP.Core.b32.p : Int) = 24 := by decide +kernel
theorem quo_n {c d : Nat} {e : Int} (hc : 8388608 ≤ c ∧ c < 16777216) (hd : 8388608 ≤ d ∧ d < 16777216) (he : -23 ≤ e ∧ e ≤ 23) : ∃ (c' : Nat) (q' : Int), FP.Core.roundRatio FP.Core.b32 false c d e = .fin false c' q' ∧ fN c' q' := by
  have hA : 0 < c := by omega
  have hB : 0 < d := by omega
  have hl := FP.Core.leading_spec hA hB
  have b1 : FP.Core.Below c d 1 := by
    show c * 2 ^ (-(1 : Int)).toNat < d * 2 ^ (1 : Int).toNat
    rw [show (-(1 : Int)).toNat = 0 by omega, show (1 : Int).toNat = 1 by omega]
    omega
  have b2 : ¬ FP.Core.Below c d (-1) := by
    show ¬ (c * 2 ^ (-(-1 : Int)).toNat < d * 2 ^ (-1 : Int).toNat)
    rw [show (-(-1 : Int)).toNat = 1 by omega, show (-1 : Int).toNat = 0 by omega]
    omega
  have l1 := FP.Core.lt_of_below hl.1 b1
  have l2 := FP.Core.lt_of_below b2 hl.2
  have hq : FP.Core.quantum FP.Core.b32 c d e = max (-149) (FP.Core.leading c d + e - (24 - 1)) := by
    unfold FP.Core.quantum
    rw [b_qmin, b_p]
  have hn1 := FP.Core.nearest_units_le (f := FP.Core.b32) hA hB e
  have hn2 := FP.Core.quantum_not_below (f := FP.Core.b32) hA hB e
  rw [b_qmin, b_p] at hn2
  have hq0 : -47 ≤ FP.Core.quantum FP.Core.b32 c d e ∧ FP.Core.quantum FP.Core.b32 c d e ≤ 0 := by rw [hq]; omega
  have hn3 : ¬ FP.Core.Below c d (FP.Core.quantum FP.Core.b32 c d e - e + ((23 : Nat) : Int)) := by
    rcases hn2 with h | h
    · omega
    · exact h
  rw [← FP.Core.units_below] at hn3
  have hn4 : 8388608 ≤ FP.Core.nearest (FP.Core.unitsNum c e (FP.Core.quantum FP.Core.b32 c d e)) (FP.Core.unitsDen d e (FP.Core.quantum FP.Core.b32 c d e)) := by
    refine FP.Core.nearest_ge (FP.Core.unitsDen_pos hB _ _) ?_
    rw [show (2 : Nat) ^ 23 = 8388608 by decide +kernel] at hn3
    omega
  rw [show (2 : Nat) ^ FP.Core.b32.p = 16777216 by decide +kernel] at hn1
  have e0 : FP.Core.roundRatio FP.Core.b32 false c d e = FP.Core.settle FP.Core.b32 false (FP.Core.nearest (FP.Core.unitsNum c e (FP.Core.quantum FP.Core.b32 c d e)) (FP.Core.unitsDen d e (FP.Core.quantum FP.Core.b32 c d e))) (FP.Core.quantum FP.Core.b32 c d e) := if_neg (by omega)
  rw [e0]
  generalize FP.Core.nearest (FP.Core.unitsNum c e (FP.Core.quantum FP.Core.b32 c d e)) (FP.Core.unitsDen d e (FP.Core.quantum FP.Core.b32 c d e)) = n at *
  generalize FP.Core.quantum FP.Core.b32 c d e = q0 at *
  unfold FP.Core.settle FP.Core.bound
  rw [show (2 : Nat) ^ FP.Core.b32.p = 16777216 by decide +kernel, b_qmax, b_tails]
  by_cases h : n < 16777216
  · rw [if_pos h, if_pos (by omega)]
    exact ⟨n, q0, rfl, by unfold fN; omega⟩
  · rw [if_neg h, if_pos (by omega)]
    exact ⟨8388608, q0 + 1, rfl, by unfold fN; omega⟩
def fPos (x : UInt32) : Prop := x = 0 ∨ ∃ (c : Nat) (q : Int), fN c q ∧ x = fB c q
theorem quo_0 {d : Nat} {r : Int} (hd : 0 < d) : FP.Core.quotient FP.Core.b32 (.fin false 0 (-149)) (.fin false d r) = .fin false 0 (-149) := by
  rw [quo_ff _ _ _ _ _ _ (by omega)]
  have h : FP.Core.roundRatio FP.Core.b32 (false != false) 0 d (-149 - r) = .fin false 0 FP.Core.b32.qmin := if_pos rfl
  rw [h, b_qmin]
theorem div_n {x y : UInt32} {c d : Nat} {q r : Int} (hx : FP.Core.val32 x = .fin false c q) (hy : FP.Core.val32 y = .fin false d r) (hq : -23 ≤ q ∧ q ≤ 0) (hr : -23 ≤ r ∧ r ≤ 0) (hc : 8388608 ≤ c ∧ c < 16777216) (hd : 8388608 ≤ d ∧ d < 16777216) : fPos (FP.fdiv x y) := by
  obtain ⟨c', q', e1, e2⟩ := quo_n hc hd (e := q - r) (by omega)
  refine Or.inr ⟨c', q', e2, v_of ?_ fin_nn⟩
  rw [show FP.fdiv x y = FP.Core.fdiv x y from rfl, FP.Core.val32_fdiv, hx, hy, quo_ff _ _ _ _ _ _ (by omega)]
  exact e1
theorem div_0 {x y : UInt32} {d : Nat} {r : Int} (hx : FP.Core.val32 x = .fin false 0 (-149)) (hy : FP.Core.val32 y = .fin false d r) (hd : 0 < d) : fPos (FP.fdiv x y) := by
  have e : FP.Core.val32 (FP.fdiv x y) = .fin false 0 (-149) := by
    rw [show FP.fdiv x y = FP.Core.fdiv x y from rfl, FP.Core.val32_fdiv, hx, hy]
    exact quo_0 hd
  exact Or.inl ((v_of e fin_nn).trans (by decide +kernel))
theorem fp_48 {a : Int} (h : 0 ≤ a ∧ a < 16777216) : fPos (FP.fdiv (FP.i2f (iI a)) 1111490560) := by
  by_cases h0 : a = 0
  · rw [h0]; exact div_0 i2f_0 val_48 (by omega)
  · obtain ⟨c, q, e1, e2, e3, e4⟩ := i2f_n (a := a) (by omega)
    exact div_n e1 val_48 e2 (by omega) ⟨e3, e4⟩ (by omega)
theorem fp_q {a b : Int} (h : 0 ≤ a ∧ a < 16777216) (hb : 0 < b ∧ b < 16777216) : fPos (FP.fdiv (FP.i2f (iI a)) (FP.i2f (iI b))) := by
  obtain ⟨d, r, f1, f2, f3, f4⟩ := i2f_n hb
  by_cases h0 : a = 0
  · rw [h0]; exact div_0 i2f_0 f1 (by omega)
  · obtain ⟨c, q, e1, e2, e3, e4⟩ := i2f_n (a := a) (by omega)
    exact div_n e1 f1 e2 f2 ⟨e3, e4⟩ ⟨f3, f4⟩
theorem fPos_n32 {x : UInt32} (h : fPos x) : vf_n32 x := by
  rcases h with h | ⟨c, q, hN, h⟩
  · rw [h]; exact n32_of (by decide +kernel)
  · rw [h]; unfold fN at hN; exact fB_n32 hN.1 hN.2.1 (by omega)
theorem fPos_bits {x : UInt32} (h : fPos x) : x.toNat < 2147483648 := by
  rcases h with h | ⟨c, q, hN, h⟩
  · rw [h]; decide +kernel
  · rw [h]; unfold fN at hN; rw [enc_nat hN.1 hN.2.1 (by omega)]; omega
theorem fPos_raw {x : UInt32} (h : fPos x) : x.toInt32 = iI (x.toNat : Int) := by
  have h1 := fPos_bits h
  apply Int32.toInt_inj.mp
  rw [iI_t (by omega)]
  show x.toBitVec.toInt = _
  rw [BitVec.toInt_eq_toNat_of_lt (by show 2 * x.toNat < 2 ^ 32; omega)]
  rfl
/-- the bits put together -/
theorem iI_nat {z : Int} (h : 0 ≤ z ∧ z < 4294967296) : (iI z).toBitVec.toNat = z.toNat := by
  show (BitVec.ofInt 32 z).toNat = z.toNat
  rw [BitVec.toNat_ofInt]
  show (z % 4294967296).toNat = z.toNat
  rw [Int.emod_eq_of_lt h.1 h.2]
theorem shl_dec : ∀ E : Nat, E < 255 → iI (E : Int) <<< (iI 23 &&& 31) = iI ((E : Int) * 8388608) := by decide +kernel
theorem bits_join {E t : Int} (hE : 0 ≤ E ∧ E ≤ 254) (ht : 0 ≤ t ∧ t < 8388608) : (iI E <<< (iI 23 &&& 31)) ||| iI t = iI (E * 8388608 + t) := by
  have h1 := shl_dec E.toNat (by omega)
  rw [show ((E.toNat : Nat) : Int) = E by omega] at h1
  rw [h1]
  apply Int32.toBitVec_inj.mp
  apply BitVec.eq_of_toNat_eq
  rw [Int32.toBitVec_or, BitVec.toNat_or, iI_nat (by omega), iI_nat (by omega), iI_nat (by omega)]
  have h2 := Nat.two_pow_add_eq_or_of_lt (i := 23) (b := t.toNat) (by omega) E.toNat
  rw [show (2 : Nat) ^ 23 = 8388608 by decide +kernel] at h2
  rw [show (E * 8388608).toNat = 8388608 * E.toNat by omega, ← h2]
  omega
