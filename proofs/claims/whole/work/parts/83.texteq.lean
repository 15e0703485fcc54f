/-! the text is read alike on both sides -/
def AL (S T : Nat → Int → Int) : Prop := S 9 0 = 1 ∧ S 7 0 = T 4 0 ∧ S 5 = T 0 ∧ S 6 0 = T 1 0
theorem al_step {S T : Nat → Int → Int} (h : AL S T) (w sep : Int) : (stV T w sep = 1 ∧ AL (toC (tnS S w) sep) (stT T w sep) ∧ ∃ n : Int, toC (tnS S w) sep 11 = upI (S 11) w n ∧ stT T w sep 3 = upI (T 3) w n) ∨ (stV T w sep = 0 ∧ toC (tnS S w) sep 9 0 = 0 ∧ toC (tnS S w) sep 7 0 = stT T w sep 4 0) := by
  obtain ⟨h9, h7, h5, h6⟩ := h
  have t5 : tnS S w 5 = S 5 := tn_k S w 5 (by decide) (by decide) (by decide)
  have t6 : tnS S w 6 = S 6 := tn_k S w 6 (by decide) (by decide) (by decide)
  have r0 : rnZ T w 0 = T 0 := rn_k T w 0 (by decide) (by decide)
  have r1 : rnZ T w 1 = T 1 := rn_k T w 1 (by decide) (by decide)
  have c11 : ∀ b, tkS (tnS S w) b 11 = tnS S w 11 := fun b => tk_k _ b 11 (by decide) (by decide)
  have c5 : ∀ b, tkS (tnS S w) b 5 = S 5 := fun b => (tk_k _ b 5 (by decide) (by decide)).trans t5
  have c6 : ∀ b, tkS (tnS S w) b 6 = S 6 := fun b => (tk_k _ b 6 (by decide) (by decide)).trans t6
  have key : (rnV T = 0 ∧ tnS S w 9 0 = 0 ∧ tnS S w 7 0 = T 4 0) ∨ (rnV T = 1 ∧ tnS S w 9 0 = 1 ∧ tnS S w 7 0 = rnZ T w 4 0 ∧ ∃ n : Int, tnS S w 11 = upI (S 11) w n ∧ rnZ T w 3 = upI (T 3) w n) := by
    unfold rnV
    rw [← h5, ← h6, ← h7]
    by_cases d1 : digZ (chrZ (S 5) (S 6 0) (S 7 0)) = 0
    · left
      refine ⟨if_pos d1, ?_, ?_⟩
      · rw [tn_9, if_pos (Or.inr d1)]
      · unfold tnS
        rw [if_neg (by omega), if_pos d1]
        rfl
    · right
      refine ⟨if_neg d1, ?_, ?_⟩
      · rw [tn_9, if_neg (fun q => by rcases q with q | q; omega; exact d1 q)]
      · unfold tnS rnZ
        rw [← h5, ← h6, ← h7, if_neg (show ¬ S 9 0 = 0 by omega), if_neg d1, if_neg d1]
        by_cases d2 : digZ (chrZ (S 5) (S 6 0) (S 7 0 + 1)) = 0
        · rw [if_pos d2, if_pos d2]
          exact ⟨rfl, 0 + chrZ (S 5) (S 6 0) (S 7 0) - 48, rfl, by show upI (T 3) w _ = upI (T 3) w _; congr 1; omega⟩
        · rw [if_neg d2, if_neg d2]
          by_cases d3 : digZ (chrZ (S 5) (S 6 0) (S 7 0 + 1 + 1)) = 0
          · rw [if_pos d3, if_pos d3]
            exact ⟨rfl, 10 * (0 + chrZ (S 5) (S 6 0) (S 7 0) - 48) + chrZ (S 5) (S 6 0) (S 7 0 + 1) - 48, rfl, by show upI (T 3) w _ = upI (T 3) w _; congr 1; omega⟩
          · rw [if_neg d3, if_neg d3]
            exact ⟨rfl, 10 * (10 * (0 + chrZ (S 5) (S 6 0) (S 7 0) - 48) + chrZ (S 5) (S 6 0) (S 7 0 + 1) - 48) + chrZ (S 5) (S 6 0) (S 7 0 + 1 + 1) - 48, rfl, by show upI (T 3) w _ = upI (T 3) w _; congr 1; omega⟩
  rcases key with ⟨k1, k2, k3⟩ | ⟨k1, k2, k3, n, k4, k5⟩
  · right
    have e : stT T w sep 4 0 = T 4 0 := by
      unfold stT
      rw [if_pos k1]
      unfold rnV at k1
      unfold rnZ
      by_cases d1 : digZ (chrZ (T 0) (T 1 0) (T 4 0)) = 0
      · rw [if_pos d1]
      · rw [if_neg d1] at k1; omega
    refine ⟨by unfold stV; rw [if_pos k1], ?_, ?_⟩
    · unfold toC; rw [tk_9, if_neg (fun q => q.1 k2)]
    · unfold toC; rw [tk_7, if_neg (fun q => q.1 k2), k3, e]
  · have ch : chrZ (tnS S w 5) (tnS S w 6 0) (tnS S w 7 0) = chrZ (rnZ T w 0) (rnZ T w 1 0) (rnZ T w 4 0) := by rw [t5, t6, r0, r1, k3, h5, h6]
    by_cases c : chrZ (rnZ T w 0) (rnZ T w 1 0) (rnZ T w 4 0) = sep
    · left
      have e : stT T w sep = upG (rnZ T w) 4 0 (rnZ T w 4 0 + 1) := by unfold stT; rw [if_neg (by omega), if_pos c]
      rw [e]
      unfold toC
      rw [ch, if_pos c]
      refine ⟨by unfold stV; rw [if_neg (by omega), if_pos c], ⟨?_, ?_, ?_, ?_⟩, n, ?_, k5⟩
      · rw [tk_9, if_pos ⟨by omega, by decide⟩]
      · rw [tk_7, if_pos ⟨by omega, by decide⟩, k3]; rfl
      · rw [c5]; exact h5.trans r0.symm
      · rw [c6]; show S 6 0 = rnZ T w 1 0; rw [r1]; exact h6
      · rw [c11]; exact k4
    · right
      have e : stT T w sep = rnZ T w := by unfold stT; rw [if_neg (by omega), if_neg c]
      rw [e]
      unfold toC
      rw [ch, if_neg c]
      refine ⟨by unfold stV; rw [if_neg (by omega), if_neg c], ?_, ?_⟩
      · rw [tk_9, if_neg (fun q => q.2 rfl)]
      · rw [tk_7, if_neg (fun q => q.2 rfl), k3]
theorem al_dead {S : Nat → Int → Int} (h : S 9 0 = 0) (w sep : Int) : toC (tnS S w) sep 9 0 = 0 ∧ toC (tnS S w) sep 7 0 = S 7 0 := by
  have e9 : tnS S w 9 0 = 0 := by rw [tn_9, if_pos (Or.inl h)]
  have e7 : tnS S w 7 0 = S 7 0 := by unfold tnS; rw [if_pos h]; rfl
  unfold toC
  rw [tk_9, tk_7, if_neg (fun q => q.1 e9), if_neg (fun q => q.1 e9), e7]
  exact ⟨rfl, rfl⟩
theorem toC_k2 (S : Nat → Int → Int) (w sep : Int) (k : Nat) (h7 : k ≠ 7) (h9 : k ≠ 9) (h11 : k ≠ 11) : toC (tnS S w) sep k = S k := (tk_k _ _ k h7 h9).trans (tn_k _ _ k h7 h9 h11)
theorem nm_nos (k : Int) (h : okZ k = 1) : nmZ k = nosZ k := by
  rcases ok_let h with e | e | e | e | e | e <;> subst e <;> decide
theorem ok_nos (k : Int) : okZ k = 0 ↔ nosZ k = 0 := by
  unfold okZ nosZ
  omega
theorem nm_no (k : Int) (h : okZ k = 0) : nmZ k = 1 := by
  unfold okZ at h
  unfold nmZ
  omega
theorem order_eq {S T : Nat → Int → Int} (h5 : S 5 = T 0) (h6 : S 6 0 = T 1 0) : toS S 7 0 = roT T (S 7 0) 4 0 ∧ ((roV T (S 7 0) = 0 ∧ toS S 9 0 = 0) ∨ (roV T (S 7 0) = 1 ∧ toS S 9 0 = 1 ∧ okZ (chrZ (S 5) (S 6 0) (S 7 0)) = 1 ∧ toS S 11 0 = roT T (S 7 0) 3 0 ∧ (nosZ (chrZ (S 5) (S 6 0) (S 7 0)) ≠ 1 → toS S 11 1 = roT T (S 7 0) 3 1) ∧ (nosZ (chrZ (S 5) (S 6 0) (S 7 0)) = 3 → toS S 11 2 = roT T (S 7 0) 3 2))) := by
  have hc : chrZ (T 0) (T 1 0) (S 7 0) = chrZ (S 5) (S 6 0) (S 7 0) := by rw [h5, h6]
  unfold roT roV
  rw [hc]
  unfold toS toN
  generalize hk : chrZ (S 5) (S 6 0) (S 7 0) = k at *
  rcases ok_b k with ok | ok
  · have n0 := (ok_nos k).mp ok
    rw [nm_no k ok, if_pos rfl, if_pos n0, if_pos n0, ok]
    have d9 : tkS (toA S) 0 9 0 = 0 := by rw [tk_9, if_neg (fun q => q.2 rfl)]
    have d7 : tkS (toA S) 0 7 0 = S 7 0 := by rw [tk_7, if_neg (fun q => q.2 rfl)]; rfl
    have hd := al_dead d9 0 59
    refine ⟨by rw [hd.2, d7]; rfl, Or.inl ⟨rfl, hd.1⟩⟩
  · have n0 : ¬ nosZ k = 0 := fun q => by have := (ok_nos k).mpr q; omega
    rw [nm_nos k ok, if_neg n0, if_neg n0, ok]
    have hA : AL (tkS (toA S) 1) (ro2 T (S 7 0)) := by
      refine ⟨?_, ?_, ?_, ?_⟩
      · rw [tk_9, if_pos ⟨by show (1 : Int) ≠ 0; decide, by decide⟩]
      · rw [tk_7, if_pos ⟨by show (1 : Int) ≠ 0; decide, by decide⟩]; rfl
      · rw [tk_k _ _ 5 (by decide) (by decide)]; exact h5
      · rw [tk_k _ _ 6 (by decide) (by decide)]; exact h6
    have hb := nos_bd k
    by_cases n1 : nosZ k = 1
    · rw [if_pos n1, if_pos n1, if_pos n1]
      rcases al_step hA 0 59 with ⟨a1, a2, n, a3, a4⟩ | ⟨a1, a2, a3⟩
      · refine ⟨a2.2.1, Or.inr ⟨a1, a2.1, rfl, ?_, fun q => absurd n1 q, fun q => by omega⟩⟩
        rw [a3, a4, upI_s, upI_s]
      · exact ⟨a3, Or.inl ⟨a1, a2⟩⟩
    · rw [if_neg n1, if_neg n1, if_neg n1]
      by_cases n2 : nosZ k = 2
      · rw [if_pos n2, if_pos n2, if_pos n2]
        rcases al_step hA 0 44 with ⟨a1, a2, n, a3, a4⟩ | ⟨a1, a2, a3⟩
        · rw [if_neg (by omega), if_neg (by omega)]
          rcases al_step a2 1 59 with ⟨b1, b2, u, b3, b4⟩ | ⟨b1, b2, b3⟩
          · refine ⟨b2.2.1, Or.inr ⟨b1, b2.1, rfl, ?_, fun _ => ?_, fun q => by omega⟩⟩
            · rw [b3, b4, upI_n (by decide), upI_n (by decide), a3, a4, upI_s, upI_s]
            · rw [b3, b4, upI_s, upI_s]
          · exact ⟨b3, Or.inl ⟨b1, b2⟩⟩
        · rw [if_pos a1, if_pos a1]
          have hd := al_dead a2 1 59
          exact ⟨by rw [hd.2, a3], Or.inl ⟨rfl, hd.1⟩⟩
      · rw [if_neg n2, if_neg n2, if_neg n2]
        rcases al_step hA 0 44 with ⟨a1, a2, n, a3, a4⟩ | ⟨a1, a2, a3⟩
        · have h01 : ¬ stV (ro2 T (S 7 0)) 0 44 = 0 := by omega
          simp only [if_neg h01]
          rcases al_step a2 1 44 with ⟨b1, b2, u, b3, b4⟩ | ⟨b1, b2, b3⟩
          · have h02 : ¬ stV (stT (ro2 T (S 7 0)) 0 44) 1 44 = 0 := by omega
            simp only [if_neg h02]
            rcases al_step b2 2 59 with ⟨c1, c2, v, c3, c4⟩ | ⟨c1, c2, c3⟩
            · refine ⟨c2.2.1, Or.inr ⟨c1, c2.1, trivial, ?_, fun _ => ?_, fun _ => ?_⟩⟩
              · rw [c3, c4, upI_n (by decide), upI_n (by decide), b3, b4, upI_n (by decide), upI_n (by decide), a3, a4, upI_s, upI_s]
              · rw [c3, c4, upI_n (by decide), upI_n (by decide), b3, b4, upI_s, upI_s]
              · rw [c3, c4, upI_s, upI_s]
            · exact ⟨c3, Or.inl ⟨c1, c2⟩⟩
          · simp only [if_pos b1]
            have hd := al_dead b2 2 59
            exact ⟨by rw [hd.2, b3], Or.inl ⟨trivial, hd.1⟩⟩
        · simp only [if_pos a1]
          have hd := al_dead a2 1 44
          have hd2 := al_dead hd.1 2 59
          exact ⟨by rw [hd2.2, hd.2, a3], Or.inl ⟨trivial, hd2.1⟩⟩
