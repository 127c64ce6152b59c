/-! The easiest way, step by step, costs what the rows say -/
section C71
variable {g : gT} {σ : sT} {l : Nat → Nat}
theorem pk_min {f : Nat → Int} : ∀ n : Nat, 0 < n → (∀ i, i < n → f i < 2000000) → ∃ i : Nat, i < n ∧ (pk f n).1 = (i : Int) ∧ (pk f n).2 = f i ∧ ∀ j, j < n → f i ≤ f j := by
  intro n
  induction n with
  | zero => intro h; omega
  | succ n ih =>
    intro _ hf
    unfold pk
    by_cases c : f n < (pk f n).2
    · rw [if_pos c]
      refine ⟨n, by omega, rfl, rfl, fun j hj => ?_⟩
      by_cases e : j = n
      · subst e; exact Int.le_refl _
      · obtain ⟨i, h1, h2, h3, h4⟩ := ih (by omega) (fun i hi => hf i (by omega))
        have := h4 j (by omega)
        omega
    · rw [if_neg c]
      by_cases e : n = 0
      · subst e
        have := hf 0 (by omega)
        exact absurd this c
      · obtain ⟨i, h1, h2, h3, h4⟩ := ih (by omega) (fun i hi => hf i (by omega))
        refine ⟨i, by omega, h2, h3, fun j hj => ?_⟩
        by_cases e2 : j = n
        · subst e2; omega
        · exact h4 j (by omega)
/-- of a list that isn't empty: the first of the least -/
theorem pkA_min {f : Int → Int} {L : List Nat} (hL : L.length ≠ 0) (hf : ∀ i, i < L.length → f (L.getD i 0 : Nat) < 2000000) : ∃ i : Nat, i < L.length ∧ pkA f L = (L.getD i 0 : Nat) ∧ ∀ j, j < L.length → f (L.getD i 0 : Nat) ≤ f (L.getD j 0 : Nat) := by
  obtain ⟨i, h1, h2, h3, h4⟩ := pk_min (f := fun i => f (L.getD i 0 : Nat)) L.length (by omega) hf
  refine ⟨i, h1, ?_, h4⟩
  unfold pkA
  rw [if_neg (by omega), h2, Int.toNat_natCast]
theorem pkA_nil {f : Int → Int} {L : List Nat} (hL : L.length = 0) : pkA f L = -1 := by
  unfold pkA
  rw [hL]
  exact if_pos rfl
theorem leastTo_pk {co : Int → Int → Int} {A : Int → Int} {L : List Nat} {p : Int} (hL : L.length ≠ 0) (hf : ∀ i, i < L.length → A (L.getD i 0 : Nat) + co p (L.getD i 0 : Nat) < 1000000) : leastTo co A L p = A (pkA (fun q => A q + co p q) L) + co p (pkA (fun q => A q + co p q) L) := by
  obtain ⟨i, h1, h2, h3⟩ := pkA_min (f := fun q => A q + co p q) hL (fun i hi => by have := hf i hi; omega)
  rw [h2]
  obtain ⟨m1, m2, m3⟩ := mnN_ok (fun z => co p (L.getD z 0 : Nat) + A (L.getD z 0 : Nat)) L.length
  have e : leastTo co A L p = mnN (fun z => co p (L.getD z 0 : Nat) + A (L.getD z 0 : Nat)) L.length := rfl
  rw [e]
  have a1 := m1 i h1
  have a2 := hf i h1
  rcases m3 with m3 | ⟨j, hj, m3⟩
  · omega
  · have a3 : A (L.getD i 0 : Nat) + co p (L.getD i 0 : Nat) ≤ A (L.getD j 0 : Nat) + co p (L.getD j 0 : Nat) := h3 j hj
    omega
theorem leastTo_lt {co : Int → Int → Int} {A : Int → Int} {L : List Nat} {p M : Int} (hL : L.length ≠ 0) (h : ∀ q : Int, A q + co p q ≤ M) : leastTo co A L p ≤ M := by
  obtain ⟨m1, m2, m3⟩ := mnN_ok (fun z => co p (L.getD z 0 : Nat) + A (L.getD z 0 : Nat)) L.length
  have e : leastTo co A L p = mnN (fun z => co p (L.getD z 0 : Nat) + A (L.getD z 0 : Nat)) L.length := rfl
  rw [e]
  have a1 := m1 0 (Nat.pos_of_ne_zero hL)
  have a2 := h (L.getD 0 0 : Nat)
  omega
/-- with plays for all the rest to come is small -/
theorem wAq_small {B : Int} {s TE : Int → Int} {b : Int} (ho : SOK B s) : ∀ (r k : Nat), wN s - 1 - k = r → lkP s TE b (k + 1) → ∀ p, wAq s TE b k p ≤ 72 * (r : Int) := by
  intro r
  induction r with
  | zero =>
    intro k hk hl p
    show wA (wCo s) (wE TE (wTu s) (wH s) b) (wTu s) (wN s) k p ≤ _
    rw [wA_s, if_neg (fun z => by omega)]
    omega
  | succ r ih =>
    intro k hk hl p
    show wA (wCo s) (wE TE (wTu s) (wH s) b) (wTu s) (wN s) k p ≤ _
    rw [wA_s]
    by_cases c : k + 1 < wN s ∧ wTu s ((k : Int) + 1) ≠ -1
    · rw [if_pos c]
      have hne : (wE TE (wTu s) (wH s) b (k + 1)).length ≠ 0 := (hl (k + 1) (Nat.le_refl _) c.1).resolve_left (by rw [show ((k + 1 : Nat) : Int) = (k : Int) + 1 from by push_cast; rfl]; exact c.2)
      have hl2 : lkP s TE b (k + 1 + 1) := fun i hi hn => hl i (Nat.le_trans (Nat.le_succ _) hi) hn
      refine leastTo_lt hne (fun q => ?_)
      have a2 := wCo_rng ho p q
      have a3 : wA (wCo s) (wE TE (wTu s) (wH s) b) (wTu s) (wN s) (k + 1) q ≤ 72 * (r : Int) := ih (k + 1) (by omega) hl2 q
      push_cast
      omega
    · rw [if_neg c]; omega
theorem wAq_2880 {B : Int} {s TE : Int → Int} {b : Int} (ho : SOK B s) {k : Nat} (hl : lkP s TE b (k + 1)) (p : Int) : wAq s TE b k p ≤ 2880 := by
  have h := wAq_small ho _ k rfl hl p
  have := ho.n40
  omega
abbrev wPq (s TE : Int → Int) (b : Int) : Nat → Int := wpF (wTu s) (wAq s TE b) (wCo s) (wE TE (wTu s) (wH s) b)
abbrev wYq (s TE : Int → Int) (b : Int) : Nat → Int := wyT (wTu s) (wAq s TE b) (wCo s) (wE TE (wTu s) (wH s) b)
/-- what the runs of notes cost from their first plays on -/
def smR (s TE : Int → Int) (b : Int) : Nat → Int
  | 0 => 0
  | k + 1 => smR s TE b k + (if wTu s k ≠ -1 ∧ (k = 0 ∨ wTu s ((k : Int) - 1) = -1) then wAq s TE b k (pkA (wAq s TE b k) (wE TE (wTu s) (wH s) b k)) else 0)
theorem pk_add0 {f : Int → Int} {L : List Nat} : pkA (fun q => f q + (if (-1 : Int) = -1 then 0 else (0 : Int))) L = pkA f L := by
  congr 1
  funext q
  rw [if_pos rfl]
  omega
theorem wPq_s (s TE : Int → Int) (b : Int) (k : Nat) : wPq s TE b (k + 1) = if wTu s k = -1 then -1 else pkA (fun q => wAq s TE b k q + (if wPq s TE b k = -1 then 0 else wCo s (wPq s TE b k) q)) (wE TE (wTu s) (wH s) b k) := rfl
/-- the play of a note, where there is one -/
theorem wPq_in {B : Int} {s TE : Int → Int} {b : Int} (ho : SOK B s) (hl : lkP s TE b 0) {k : Nat} (hk : k < wN s) (ht : wTu s k ≠ -1) : wPq s TE b (k + 1) ≠ -1 ∧ 0 ≤ wPq s TE b (k + 1) := by
  rw [wPq_s, if_neg ht]
  have hne := (hl k (Nat.zero_le _) hk).resolve_left ht
  have hA := fun p => wAq_2880 ho (fun i hi hn => hl i (Nat.zero_le _) hn : lkP s TE b (k + 1)) p
  obtain ⟨i, h1, h2, h3⟩ := pkA_min (f := fun q => wAq s TE b k q + (if wPq s TE b k = -1 then 0 else wCo s (wPq s TE b k) q)) (L := wE TE (wTu s) (wH s) b k) hne (fun i hi => by
    have a1 := hA ((wE TE (wTu s) (wH s) b k).getD i 0 : Nat)
    have a2 := wCo_rng ho (wPq s TE b k) ((wE TE (wTu s) (wH s) b k).getD i 0 : Nat)
    split <;> omega)
  rw [h2]
  omega
theorem greedy {B : Int} {s TE : Int → Int} {b : Int} (ho : SOK B s) (hl : lkP s TE b 0) : ∀ k : Nat, k ≤ wN s → wYq s TE b k ≠ -1 ∧ wYq s TE b k + (if 0 < k ∧ wTu s ((k : Int) - 1) ≠ -1 then wAq s TE b (k - 1) (wPq s TE b k) else 0) = smR s TE b k := by
  intro k
  induction k with
  | zero =>
    intro _
    refine ⟨show (0 : Int) ≠ -1 by decide, ?_⟩
    rw [if_neg (fun z => by omega)]
    rfl
  | succ k ih =>
    intro hk
    obtain ⟨h1, h2⟩ := ih (by omega)
    have hY := wyT_s (tu := wTu s) (AH := wAq s TE b) (co := wCo s) (E := wE TE (wTu s) (wH s) b) k
    have hrg := wyT_rng (tu := wTu s) (AH := wAq s TE b) (E := wE TE (wTu s) (wH s) b) (wCo_rng ho) k
    have hlk1 : lkP s TE b (k + 1) := fun i hi hn => hl i (Nat.zero_le _) hn
    have hcur : ((k + 1 : Nat) : Int) - 1 = (k : Int) := by push_cast; omega
    rw [hcur, show k + 1 - 1 = k from rfl]
    by_cases ct : wTu s k = -1
    · have hp : wPq s TE b (k + 1) = -1 := by rw [wPq_s, if_pos ct]
      have e1 : wYq s TE b (k + 1) = wYq s TE b k := by
        show wyT _ _ _ _ (k + 1) = _
        rw [hY, if_neg (fun z => by rcases z with z | z; exact h1 z; exact z.1 ct)]
        unfold chg
        rw [if_pos (Or.inr hp), Int.add_zero]
      refine ⟨by rw [e1]; exact h1, ?_⟩
      rw [if_neg (fun z => z.2 ct), e1, smR, if_neg (fun z => z.1 ct), ← h2, Int.add_zero, Int.add_zero]
      by_cases cp : 0 < k ∧ wTu s ((k : Int) - 1) ≠ -1
      · rw [if_pos cp]
        have hz : wAq s TE b (k - 1) (wPq s TE b k) = 0 := by
          show wA (wCo s) (wE TE (wTu s) (wH s) b) (wTu s) (wN s) (k - 1) _ = 0
          rw [wA_s, if_neg (fun z => z.2 (by rw [show ((k - 1 : Nat) : Int) + 1 = (k : Int) from by omega]; exact ct))]
        rw [hz, Int.add_zero]
      · rw [if_neg cp, Int.add_zero]
    · have hin := wPq_in ho hl (k := k) (by omega) ct
      have e1 : wYq s TE b (k + 1) = wYq s TE b k + chg (wCo s) (wPq s TE b k) (wPq s TE b (k + 1)) := by
        show wyT _ _ _ _ (k + 1) = _
        rw [hY, if_neg (fun z => by rcases z with z | z; exact h1 z; exact hin.1 z.2)]
      have hch : 0 ≤ chg (wCo s) (wPq s TE b k) (wPq s TE b (k + 1)) := by
        have := wCo_rng ho (wPq s TE b k) (wPq s TE b (k + 1))
        unfold chg
        split <;> omega
      have hY0 : 0 ≤ wYq s TE b k := by
        have hh : -1 ≤ wYq s TE b k := hrg.1
        omega
      refine ⟨by rw [e1]; omega, ?_⟩
      rw [if_pos ⟨by omega, ct⟩, e1, smR]
      by_cases cs : k = 0 ∨ wTu s ((k : Int) - 1) = -1
      · rw [if_pos ⟨ct, cs⟩]
        have hp0 : wPq s TE b k = -1 := by
          rcases cs with rfl | cs
          · rfl
          · rcases k with _ | k
            · rfl
            · rw [wPq_s, if_pos (by rw [show ((k + 1 : Nat) : Int) - 1 = (k : Int) from by push_cast; omega] at cs; exact cs)]
        rw [if_neg (fun z => by rcases cs with y | y; omega; exact z.2 y)] at h2
        have hpk : wPq s TE b (k + 1) = pkA (wAq s TE b k) (wE TE (wTu s) (wH s) b k) := by
          rw [wPq_s, if_neg ct]
          congr 1
          funext q
          rw [if_pos hp0, Int.add_zero]
        unfold chg
        rw [if_pos (Or.inl hp0), hpk]
        omega
      · have cs1 : 0 < k := by
          by_cases z : k = 0
          · exact absurd (Or.inl z) cs
          · omega
        have cs2 : wTu s ((k : Int) - 1) ≠ -1 := fun z => cs (Or.inr z)
        rw [if_neg (fun z => cs z.2)]
        rw [if_pos ⟨cs1, cs2⟩] at h2
        have hk1 : ((k - 1 : Nat) : Int) + 1 = (k : Int) := by omega
        have hpp := wPq_in ho hl (k := k - 1) (by omega) (by rw [show ((k - 1 : Nat) : Int) = (k : Int) - 1 from by omega]; exact cs2)
        rw [show k - 1 + 1 = k from by omega] at hpp
        have hne := (hl k (Nat.zero_le _) (by omega)).resolve_left ct
        have hA := fun p => wAq_2880 ho hlk1 p
        have hlt := leastTo_pk (co := wCo s) (A := wAq s TE b k) (L := wE TE (wTu s) (wH s) b k) (p := wPq s TE b k) hne (fun i hi => by
          have a1 := hA ((wE TE (wTu s) (wH s) b k).getD i 0 : Nat)
          have a2 := wCo_rng ho (wPq s TE b k) ((wE TE (wTu s) (wH s) b k).getD i 0 : Nat)
          omega)
        have hpk : wPq s TE b (k + 1) = pkA (fun q => wAq s TE b k q + wCo s (wPq s TE b k) q) (wE TE (wTu s) (wH s) b k) := by
          rw [wPq_s, if_neg ct]
          congr 1
          funext q
          rw [if_neg hpp.1]
        rw [← hpk] at hlt
        have hz : wAq s TE b (k - 1) (wPq s TE b k) = leastTo (wCo s) (wAq s TE b k) (wE TE (wTu s) (wH s) b k) (wPq s TE b k) := by
          show wA (wCo s) (wE TE (wTu s) (wH s) b) (wTu s) (wN s) (k - 1) _ = _
          rw [wA_s, if_pos ⟨by omega, by rw [hk1]; exact ct⟩, show k - 1 + 1 = k from by omega]
        rw [hz, hlt] at h2
        unfold chg
        rw [if_neg (fun z => by rcases z with z | z; exact hpp.1 z; exact hin.1 z)]
        omega
theorem wYq_n {B : Int} {s TE : Int → Int} {b : Int} (ho : SOK B s) (hl : lkP s TE b 0) : wYq s TE b (wN s) = smR s TE b (wN s) ∧ wYq s TE b (wN s) ≠ -1 := by
  obtain ⟨h1, h2⟩ := greedy ho hl (wN s) (Nat.le_refl _)
  refine ⟨?_, h1⟩
  by_cases c : 0 < wN s ∧ wTu s ((wN s : Int) - 1) ≠ -1
  · rw [if_pos c] at h2
    have hz : wAq s TE b (wN s - 1) (wPq s TE b (wN s)) = 0 := by
      show wA (wCo s) (wE TE (wTu s) (wH s) b) (wTu s) (wN s) (wN s - 1) _ = 0
      rw [wA_s, if_neg (fun z => by omega)]
    omega
  · rw [if_neg c] at h2; omega
/-- no way where a note has no play -/
theorem wYq_no {s TE : Int → Int} {b : Int} (hl : ¬ lkP s TE b 0) : wYq s TE b (wN s) = -1 := by
  have h : ∃ k, k < wN s ∧ wTu s k ≠ -1 ∧ (EP TE (2 * 3 ^ wH s) (wTu s k + b)).length = 0 := by
    apply Classical.byContradiction
    intro z
    apply hl
    intro k _ hk
    by_cases c : wTu s k = -1
    · exact Or.inl c
    · exact Or.inr (fun y => z ⟨k, hk, c, y⟩)
  obtain ⟨k, hk, h1, h2⟩ := h
  refine wyT_stay (k := k + 1) (by omega) ?_
  rw [wyT_s]
  rw [if_pos (Or.inr ⟨h1, by
    have e := wPq_s s TE b k
    show wPq s TE b (k + 1) = -1
    rw [e, if_neg h1]
    exact pkA_nil h2⟩)]
theorem wTot_iff {B : Int} {s : Int → Int} (ho : SOK B s) : wTot s = -1 ↔ wLk s (wTe s) 0 0 ≠ -1 := by
  have h := lk_ok (s := s) (TE := wTe s) (b := 0) (j := 0) (Nat.zero_le _)
  constructor
  · intro z y
    exact (wYq_n ho (h.mp y)).2 z
  · intro z
    exact wYq_no (fun y => z (h.mpr y))
theorem wOc_0 {B : Int} {s : Int → Int} (ho : SOK B s) : wOc s (wTe s) 0 = wTot s := by
  unfold wOc
  by_cases c : wLk s (wTe s) 0 0 ≠ -1
  · rw [if_pos c, (wTot_iff ho).mpr c]
  · rw [if_neg c]
    rfl
theorem wOc_sm {B : Int} {s TE : Int → Int} {b : Int} (ho : SOK B s) (hl : lkP s TE b 0) : wOc s TE b = smR s TE b (wN s) := by
  unfold wOc
  rw [if_neg (fun z => z ((lk_ok (Nat.zero_le _)).mpr hl))]
  exact (wYq_n ho hl).1
end C71
