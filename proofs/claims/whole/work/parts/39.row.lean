/-! Way.reckonRow -/
section C39
variable {g : gT} {σ : sT} {l : Nat → Nat}
theorem EL_pos {f : Int → Int} {t : Int} {n i q : Nat} (h : (EL f t n)[i]? = some q) : (i : Int) = cnI f t q := by
  induction n with
  | zero => cases h
  | succ n ih =>
    rw [EL_succ] at h
    by_cases e : i < (EL f t n).length
    · rw [List.getElem?_append_left e] at h; exact ih h
    · rw [List.getElem?_append_right (by omega)] at h
      by_cases e2 : f n = t
      · rw [if_pos e2] at h
        have e3 : i - (EL f t n).length = 0 := by
          apply Decidable.byContradiction
          intro e7
          rw [List.getElem?_eq_none (by simp; omega)] at h
          cases h
        have e8 := EL_len f t n
        rw [e3] at h
        cases h
        omega
      · rw [if_neg e2] at h
        cases h
theorem cb_lt (k : Nat) (d : Int) (hk : k ≤ 6) : cb k d < 2 ^ 14 := by
  have h1 : 2 ^ k < 2 ^ 14 := Nat.pow_lt_pow_right (by decide) (by omega)
  have h2 : 2 ^ (k + 7) < 2 ^ 14 := Nat.pow_lt_pow_right (by decide) (by omega)
  unfold cb
  split
  · exact h1
  · split
    · exact h2
    · decide
theorem cdN_lt (p : Int) : cdN p < 2 ^ 14 := by
  unfold cdN
  exact Nat.or_lt_two_pow (Nat.or_lt_two_pow (Nat.or_lt_two_pow (Nat.or_lt_two_pow (Nat.or_lt_two_pow (Nat.or_lt_two_pow (cb_lt 0 _ (by decide)) (cb_lt 1 _ (by decide))) (cb_lt 2 _ (by decide))) (cb_lt 3 _ (by decide))) (cb_lt 4 _ (by decide))) (cb_lt 5 _ (by decide))) (cb_lt 6 _ (by decide))
theorem cdP_lt (c p : Int) : cdP c p < 32768 := by
  unfold cdP
  have h := cdN_lt (fgF c p)
  split
  · exact Nat.or_lt_two_pow (n := 15) (by omega) (by decide)
  · exact Nat.or_lt_two_pow (n := 15) (by omega) (by decide)
/-- the easy plays of a tone, if it is one -/
def EP (TE : Int → Int) (N : Nat) (t : Int) : List Nat := if 0 ≤ t ∧ t < 25 then EL TE t N else []
theorem EP_lt {TE : Int → Int} {N i q : Nat} {t : Int} (h : (EP TE N t)[i]? = some q) : q < N ∧ TE q = t := by
  unfold EP at h
  split at h
  · exact ⟨(EL_lt h).1, (EL_lt h).2.1⟩
  · cases h
theorem EP_inj {TE : Int → Int} {N i j q : Nat} {t : Int} (h : (EP TE N t)[i]? = some q) (h2 : (EP TE N t)[j]? = some q) : i = j := by
  unfold EP at h h2
  split at h
  · rename_i e
    rw [if_pos e] at h2
    have a1 := EL_pos h
    have a2 := EL_pos h2
    omega
  · cases h
/-- what a choice holds of a tone -/
theorem tone_of {o N : Nat} {TE T : Int → Int} {c : Int} (hs : isCh o) (hC : ChO σ o TE T c N) (hN : N ≤ 4374) (t : Int) : ∃ fs : Int, atF σ l (o + 1) t = fs ∧ ctF (σ (o + 1)) t = ((EP TE N t).length : Int) ∧ (EP TE N t).length ≤ 4374 ∧ 0 ≤ fs ∧ fs ≤ 100000 ∧ ∀ i q : Nat, (EP TE N t)[i]? = some q → fs + i < N ∧ σ (o + 6) (fs + i) = (q : Int) ∧ σ (o + 7) (fs + i) = (cdP c q : Int) := by
  refine ⟨_, rfl, ?_, ?_, ?_⟩
  · unfold ctF EP
    by_cases ht : 0 ≤ t ∧ t < 25
    · rw [if_pos ht, if_pos ht]
      obtain ⟨k, hk⟩ : ∃ k : Nat, t = (k : Int) := ⟨t.toNat, by omega⟩
      subst hk
      have a1 := hC.1 k (by omega)
      have a2 := hC.1 (k + 1) (by omega)
      rw [frI_s] at a2
      rw [show ((k : Int) + 1) = ((k + 1 : Nat) : Int) from by push_cast; rfl, a2, a1, EL_len]
      show _ + cnI TE k N - _ = _
      omega
    · rw [if_neg ht, if_neg ht]; rfl
  · unfold EP
    split
    · have a1 := EL_len TE t N
      have a2 := cnI_rng TE t N
      omega
    · exact Nat.zero_le _
  · have hA : atF σ l (o + 1) t = if 0 ≤ t ∧ t ≤ 25 then frI (fun z => cnI TE z N) t.toNat else 0 := by
      unfold atF
      rw [hs.n1]
      by_cases e : 0 ≤ t ∧ t ≤ 25
      · rw [if_pos e, if_pos (by omega)]
        have := hC.1 t.toNat (by omega)
        rw [← this]
        congr 1
        omega
      · rw [if_neg e, if_neg (by omega)]
    have hr := frI_le TE N t.toNat
    refine ⟨by rw [hA]; split <;> omega, by rw [hA]; split <;> omega, fun i q h => ?_⟩
    unfold EP at h
    split at h
    · rename_i e
      rw [if_pos (by omega)] at hA
      have a1 := hC.2.1 t.toNat (by omega) i q (by rw [show ((t.toNat : Nat) : Int) = t from by omega]; exact h)
      have a2 := (EL_lt h).2.2
      have a3 := frI_le TE N (t.toNat + 1)
      rw [frI_s] at a3
      rw [show ((t.toNat : Nat) : Int) = t from by omega] at a3
      rw [hA]
      exact ⟨by have : (fun z => cnI TE z N) t = cnI TE t N := rfl
                omega, a1.1, a1.2⟩
    · cases h
def leastTo (pr : Int → Int → Int) (f : Int → Int) (L : List Nat) (p : Int) : Int := mnN (fun z => pr p (L.getD z 0 : Nat) + f (L.getD z 0 : Nat)) L.length
theorem leastTo_le (pr : Int → Int → Int) (f : Int → Int) (L : List Nat) (p : Int) : leastTo pr f L p ≤ 1000000 := (mnN_ok _ _).2.1
theorem leastTo_ge {pr : Int → Int → Int} {f : Int → Int} {L : List Nat} {p : Int} (h : ∀ i, i < L.length → 0 ≤ pr p (L.getD i 0 : Nat) + f (L.getD i 0 : Nat)) : 0 ≤ leastTo pr f L p := by
  unfold leastTo
  rcases (mnN_ok (fun z => pr p (L.getD z 0 : Nat) + f (L.getD z 0 : Nat)) L.length).2.2 with h1 | ⟨i, hi, h1⟩
  · rw [h1]; decide
  · rw [h1]; exact h i hi
theorem getD_some {L : List Nat} {i : Nat} (h : i < L.length) : L[i]? = some (L.getD i 0) := by
  rw [List.getD_eq_getElem?_getD, List.getElem?_eq_getElem h]; rfl
/-- whether reckonRow takes the way by holes -/
def uHb (H cA cB : Nat) : Prop := ¬ (3 * cA * cB ≤ 2 * 3 ^ H * (H + 1))
theorem uHb_dec (H cA cB : Nat) : uHb H cA cB ∨ ¬ uHb H cA cB := Classical.em _
end C39
