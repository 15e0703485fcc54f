/-! what an order leaves as it was, in the reference -/
theorem do_k (S : Nat → Int → Int) (j : Nat) (hj : j ≠ 0) : doS S j = S j := by
  unfold doS
  split
  · exact wr_k S _ _ _ j hj
  · split
    · exact wa_k S _ j hj
    · split
      · rw [ly_k _ _ _ _ j hj, ly_k _ _ _ _ j hj]
      · split
        · exact ly_k _ _ _ _ j hj
        · split
          · exact ly_k _ _ _ _ j hj
          · exact es_k S j hj _
theorem inv_do {B : Int} {S : Nat → Int → Int} (hI : InvG B (gOf (S 0))) (hB : B + 594 ≤ 100000000) (he : eoV S = 0) : InvG (B + 594) (gOf (doS S 0)) := by
  unfold eoV at he
  unfold doS
  by_cases h1 : S 10 0 = 119
  · rw [if_pos h1] at he
    rw [if_pos h1]
    have hb : (0 ≤ S 11 0 ∧ S 11 0 < 6) ∧ (0 ≤ S 11 1 ∧ S 11 1 < 8) ∧ (0 ≤ S 11 2 ∧ S 11 2 < 3) := by unfold ewV at he; omega
    rw [gOf_wr S _ hb.1 hb.2.1]
    have h2 := invG_2 hI (8 * S 11 0 + S 11 1) (by omega) (by omega)
    exact invG_mono (inv_put (invG_mono hI (B' := B + 1) (by omega) (by omega)) (by omega) (by omega) (by omega)) (by omega) (by omega)
  · rw [if_neg h1] at he
    rw [if_neg h1]
    by_cases h2 : S 10 0 = 97
    · rw [if_pos h2] at he
      rw [if_pos h2]
      have hb : 0 ≤ S 11 0 ∧ S 11 0 < 6 := by omega
      rw [gOf_wa hI (by omega) hb]
      exact invG_mono (writeAnew_inv hI (by omega) hb) (by omega) (by omega)
    · rw [if_neg h2] at he
      rw [if_neg h2]
      by_cases h3 : S 10 0 = 102
      · rw [if_pos h3] at he
        rw [if_pos h3]
        have hb : (0 ≤ S 11 0 ∧ S 11 0 < 6) ∧ (0 ≤ S 11 1 ∧ S 11 1 < 3) ∧ (0 ≤ S 11 2 ∧ S 11 2 ≤ 999) := by unfold efV at he; omega
        have hp : 0 ≤ 3 * S 11 0 + S 11 1 ∧ 3 * S 11 0 + S 11 1 < 18 := by omega
        rw [gOf_ly (lyZ S 4 (3 * S 11 0 + S 11 1) (S 11 2)) (k := 5) 1 hp, gOf_ly S (k := 4) _ hp]
        exact invG_mono (invG_up5 (invG_up4 hI _ hb.2.2) _ (by omega)) (by omega) (by omega)
      · rw [if_neg h3] at he
        rw [if_neg h3]
        by_cases h4 : S 10 0 = 109
        · rw [if_pos h4] at he
          rw [if_pos h4]
          have hb : (0 ≤ S 11 0 ∧ S 11 0 < 6) ∧ (0 ≤ S 11 1 ∧ S 11 1 < 3) := by unfold emV at he; omega
          have hp : 0 ≤ 3 * S 11 0 + S 11 1 ∧ 3 * S 11 0 + S 11 1 < 18 := by omega
          rw [gOf_ly S (k := 5) 0 hp]
          exact invG_mono (invG_up5 hI _ (by omega)) (by omega) (by omega)
        · rw [if_neg h4] at he
          rw [if_neg h4]
          by_cases h5 : S 10 0 = 114
          · rw [if_pos h5] at he
            rw [if_pos h5]
            have hb : (0 ≤ S 11 0 ∧ S 11 0 < 6) ∧ (1 ≤ S 11 1 ∧ S 11 1 ≤ 200) := by unfold erV at he; omega
            rw [gOf_ly S (k := 6) _ hb.1]
            exact invG_mono (invG_up6 hI _ hb.2) (by omega) (by omega)
          · rw [if_neg h5] at he
            rw [if_neg h5]
            have hb : (1 ≤ S 11 0 ∧ S 11 0 ≤ 99) ∧ gOf (S 0) 12 0 ≤ 9999 - S 11 0 := by unfold edV at he; omega
            exact invG_mono (inv_es hI (S 11 0).toNat (by omega) (by omega)) (by omega) (by omega)
/-! what taking an order keeps -/
theorem toC_k (S : Nat → Int → Int) (c : Int) (k : Nat) (h7 : k ≠ 7) (h9 : k ≠ 9) : toC S c k = S k := tk_k S _ k h7 h9
theorem toN_k (S : Nat → Int → Int) (k : Nat) (h7 : k ≠ 7) (h8 : k ≠ 8) (h9 : k ≠ 9) (h10 : k ≠ 10) (h11 : k ≠ 11) : toN S k = S k := by
  unfold toN
  rw [tn_k _ _ k h7 h9 h11, tk_k _ _ k h7 h9]
  unfold toA upG
  rw [if_neg h10, if_neg h9, if_neg h8]
theorem to_k (S : Nat → Int → Int) (k : Nat) (h7 : k ≠ 7) (h8 : k ≠ 8) (h9 : k ≠ 9) (h10 : k ≠ 10) (h11 : k ≠ 11) : toS S k = S k := by
  unfold toS
  split
  · rw [toC_k _ _ k h7 h9, toN_k S k h7 h8 h9 h10 h11]
  · split
    · rw [toC_k _ _ k h7 h9, tn_k _ _ k h7 h9 h11, toC_k _ _ k h7 h9, toN_k S k h7 h8 h9 h10 h11]
    · rw [toC_k _ _ k h7 h9, tn_k _ _ k h7 h9 h11, toC_k _ _ k h7 h9, tn_k _ _ k h7 h9 h11, toC_k _ _ k h7 h9, toN_k S k h7 h8 h9 h10 h11]
theorem tnk8 (S : Nat → Int → Int) (w : Int) : tnS S w 8 0 = S 8 0 := congrFun (tn_k S w 8 (by decide) (by decide) (by decide)) 0
theorem tnk10 (S : Nat → Int → Int) (w : Int) : tnS S w 10 0 = S 10 0 := congrFun (tn_k S w 10 (by decide) (by decide) (by decide)) 0
theorem toCk8 (S : Nat → Int → Int) (w : Int) : toC S w 8 0 = S 8 0 := congrFun (toC_k S w 8 (by decide) (by decide)) 0
theorem toCk10 (S : Nat → Int → Int) (w : Int) : toC S w 10 0 = S 10 0 := congrFun (toC_k S w 10 (by decide) (by decide)) 0
theorem to_10 (S : Nat → Int → Int) : toS S 10 0 = chrZ (S 5) (S 6 0) (S 7 0) := by
  have h : toN S 10 0 = chrZ (S 5) (S 6 0) (S 7 0) := by
    unfold toN; rw [tnk10]; exact congrFun (tk_k (toA S) _ 10 (by decide) (by decide)) 0
  unfold toS
  split
  · rw [toCk10, h]
  · split
    · rw [toCk10, tnk10, toCk10, h]
    · rw [toCk10, tnk10, toCk10, tnk10, toCk10, h]
theorem to_8 (S : Nat → Int → Int) : toS S 8 0 = S 7 0 := by
  have h : toN S 8 0 = S 7 0 := by
    unfold toN; rw [tnk8]; exact congrFun (tk_k (toA S) _ 8 (by decide) (by decide)) 0
  unfold toS
  split
  · rw [toCk8, h]
  · split
    · rw [toCk8, tnk8, toCk8, h]
    · rw [toCk8, tnk8, toCk8, tnk8, toCk8, h]
/-- that it was in form goes back -/
theorem toC_9 {S : Nat → Int → Int} {c : Int} (h : toC S c 9 0 ≠ 0) : S 9 0 ≠ 0 ∧ S 7 0 + 1 ≤ toC S c 7 0 := by
  unfold toC at h ⊢
  rw [tk_9] at h
  rw [tk_7]
  have h2 : S 9 0 ≠ 0 ∧ (if chrZ (S 5) (S 6 0) (S 7 0) = c then 1 else 0 : Int) ≠ 0 := by
    refine Classical.byContradiction (fun q => h (if_neg q))
  rw [if_pos h2]
  exact ⟨h2.1, Int.le_refl _⟩
theorem tn_9' {S : Nat → Int → Int} {w : Int} (h : tnS S w 9 0 ≠ 0) : S 9 0 ≠ 0 := by
  rw [tn_9] at h
  exact fun q => h (if_pos (Or.inl q))
theorem toN_9 {S : Nat → Int → Int} (h : toN S 9 0 ≠ 0) : okZ (chrZ (S 5) (S 6 0) (S 7 0)) = 1 := by
  have h2 := tn_9' h
  rw [tk_9] at h2
  have h3 := ok_b (chrZ (S 5) (S 6 0) (S 7 0))
  refine h3.elim (fun q => absurd (if_neg (fun r => r.2 q)) h2) id
theorem toN_7 (S : Nat → Int → Int) : S 7 0 ≤ toN S 7 0 ∧ toN S 7 0 ≤ S 7 0 + 4 := by
  have h1 := tn_7 (tkS (toA S) (okZ (chrZ (S 5) (S 6 0) (S 7 0)))) 0
  have h2 : S 7 0 ≤ tkS (toA S) (okZ (chrZ (S 5) (S 6 0) (S 7 0))) 7 0 ∧ tkS (toA S) (okZ (chrZ (S 5) (S 6 0) (S 7 0))) 7 0 ≤ S 7 0 + 1 := tk_b7 (toA S) _
  unfold toN
  omega
theorem toC_7 (S : Nat → Int → Int) (c : Int) : S 7 0 ≤ toC S c 7 0 ∧ toC S c 7 0 ≤ S 7 0 + 1 := tk_b7 S _
theorem to_7 (S : Nat → Int → Int) : S 7 0 ≤ toS S 7 0 ∧ toS S 7 0 ≤ S 7 0 + 13 := by
  have h := toN_7 S
  have a1 := toC_7 (toN S) 59
  have b1 := toC_7 (toN S) 44
  have b2 := tn_7 (toC (toN S) 44) 1
  have b3 := toC_7 (tnS (toC (toN S) 44) 1) 59
  have c3 := toC_7 (tnS (toC (toN S) 44) 1) 44
  have c4 := tn_7 (toC (tnS (toC (toN S) 44) 1) 44) 2
  have c5 := toC_7 (tnS (toC (tnS (toC (toN S) 44) 1) 44) 2) 59
  unfold toS
  split
  · omega
  · split <;> omega
theorem to_9 (S : Nat → Int → Int) : toS S 9 0 = 0 ∨ toS S 9 0 = 1 := by
  unfold toS
  split
  · exact tk_b9 _ _
  · split <;> exact tk_b9 _ _
theorem to_form {S : Nat → Int → Int} (h : toS S 9 0 ≠ 0) : okZ (chrZ (S 5) (S 6 0) (S 7 0)) = 1 ∧ S 7 0 + 1 ≤ toS S 7 0 := by
  have h0 := toN_7 S
  unfold toS at h ⊢
  split at h
  · rename_i e
    rw [if_pos e]
    have h1 := toC_9 h
    exact ⟨toN_9 h1.1, by omega⟩
  · rename_i e
    rw [if_neg e]
    split at h
    · rename_i e2
      rw [if_pos e2]
      have h1 := toC_9 h
      have h2 := toC_9 (tn_9' h1.1)
      have b2 := tn_7 (toC (toN S) 44) 1
      exact ⟨toN_9 h2.1, by omega⟩
    · rename_i e2
      rw [if_neg e2]
      have h1 := toC_9 h
      have h2 := toC_9 (tn_9' h1.1)
      have h3 := toC_9 (tn_9' h2.1)
      have b2 := tn_7 (toC (toN S) 44) 1
      have c4 := tn_7 (toC (tnS (toC (toN S) 44) 1) 44) 2
      exact ⟨toN_9 h3.1, by omega⟩
theorem to_inv {S : Nat → Int → Int} (h : InvS S) : InvS (toS S) := by
  unfold InvS
  rw [to_k S 5 (by decide) (by decide) (by decide) (by decide) (by decide), to_k S 6 (by decide) (by decide) (by decide) (by decide) (by decide)]
  exact h
theorem to_g (S : Nat → Int → Int) : toS S 0 = S 0 := to_k S 0 (by decide) (by decide) (by decide) (by decide) (by decide)
