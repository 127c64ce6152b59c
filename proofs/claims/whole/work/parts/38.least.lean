/-! Spreading hole by hole gives the least over all plays -/
section C38
theorem pd_0 (m h a : Int) : pd m h a a = 0 := if_pos rfl
theorem pd_ge {m h a b : Int} (hm : 0 ≤ m) (hh : 0 ≤ h) : 0 ≤ pd m h a b := by unfold pd; split; omega; split <;> omega
theorem dC_ge {m h p q : Int} (hm : 0 ≤ m) (hh : 0 ≤ h) (k : Nat) : 0 ≤ dC m h k p q := by
  induction k with
  | zero => exact Int.le_refl _
  | succ k ih => have := pd_ge (a := dgt p k) (b := dgt q k) hm hh; show 0 ≤ dC m h k p q + _; omega
theorem dC_self (m h p : Int) (k : Nat) : dC m h k p p = 0 := by
  induction k with
  | zero => rfl
  | succ k ih => show dC m h k p p + pd m h _ _ = 0; rw [ih, pd_0]; rfl
theorem dgt_small {p : Int} {k : Nat} (h0 : 0 ≤ p) (h1 : p < ((3 ^ k : Nat) : Int)) : dgt p k = 0 := by
  unfold dgt
  rw [Int.ediv_eq_zero_of_lt h0 h1]
  rfl
theorem dgt_add {p x : Int} {k K : Nat} (hk : k < K) : dgt (p + ((3 ^ K : Nat) : Int) * x) k = dgt p k := by
  unfold dgt
  have e : ((3 ^ K : Nat) : Int) * x = ((3 ^ k : Nat) : Int) * (3 * (((3 ^ (K - k - 1) : Nat) : Int) * x)) := by
    have e1 : 3 ^ K = 3 ^ k * (3 * 3 ^ (K - k - 1)) := by
      rw [← Nat.pow_succ', ← Nat.pow_add]; congr 1; omega
    rw [e1]
    push_cast
    rw [Int.mul_assoc, Int.mul_assoc]
  have hp := p3_pos k
  rw [e, Int.add_mul_ediv_left _ _ (by omega)]
  generalize p / ((3 ^ k : Nat) : Int) = a
  generalize ((3 ^ (K - k - 1) : Nat) : Int) * x = b
  omega
theorem dC_add {m h p x q : Int} {K : Nat} : ∀ k, k ≤ K → dC m h k (p + ((3 ^ K : Nat) : Int) * x) q = dC m h k p q := by
  intro k
  induction k with
  | zero => intro _; rfl
  | succ k ih => intro hk; show dC m h k _ q + pd m h _ _ = dC m h k p q + pd m h _ _; rw [ih (by omega), dgt_add (by omega)]
theorem dC_comm (m h p q : Int) (k : Nat) : dC m h k p q = dC m h k q p := by
  induction k with
  | zero => rfl
  | succ k ih =>
    show dC m h k p q + pd m h _ _ = dC m h k q p + pd m h _ _
    rw [ih]
    unfold pd
    by_cases e : dgt p k = dgt q k
    · rw [if_pos e, if_pos e.symm]
    · rw [if_neg e, if_neg (show ¬ (dgt q k = dgt p k) from fun z => e z.symm)]
      by_cases e2 : dgt p k = 1 ∨ dgt q k = 1
      · rw [if_pos e2, if_pos (Or.symm e2)]
      · rw [if_neg e2, if_neg (fun z => e2 (Or.symm z))]
/-- three places of one hole -/
theorem sp3 {m h Q t d v : Int} {f : Int → Int} (hQ : 0 < Q) (hv : 0 ≤ v ∧ v < Q) (hd : 0 ≤ d ∧ d ≤ 2) :
    (∀ e, 0 ≤ e → e ≤ 2 → spH m h Q f (Q * (3 * t) + d * Q + v) ≤ f (Q * (3 * t) + e * Q + v) + pd m h d e) ∧ ∃ e, 0 ≤ e ∧ e ≤ 2 ∧ spH m h Q f (Q * (3 * t) + d * Q + v) = f (Q * (3 * t) + e * Q + v) + pd m h d e := by
  have g0 : Q * (3 * t) + 0 * Q + v = Q * (3 * t) + v := by omega
  have g1 : Q * (3 * t) + 1 * Q + v = Q * (3 * t) + v + Q := by omega
  have g2 : Q * (3 * t) + 2 * Q + v = Q * (3 * t) + v + 2 * Q := by omega
  have hd' : d = 0 ∨ d = 1 ∨ d = 2 := by omega
  have p00 : pd m h 0 0 = 0 := rfl
  have p01 : pd m h 0 1 = h := by simp [pd]
  have p02 : pd m h 0 2 = m := by simp [pd]
  have p10 : pd m h 1 0 = h := by simp [pd]
  have p11 : pd m h 1 1 = 0 := rfl
  have p12 : pd m h 1 2 = h := by simp [pd]
  have p20 : pd m h 2 0 = m := by simp [pd]
  have p21 : pd m h 2 1 = h := by simp [pd]
  have p22 : pd m h 2 2 = 0 := rfl
  rcases hd' with rfl | rfl | rfl
  · rw [g0, spH_0 hQ hv]
    refine ⟨fun e e0 e2 => ?_, ?_⟩
    · have he : e = 0 ∨ e = 1 ∨ e = 2 := by omega
      rcases he with rfl | rfl | rfl
      · rw [g0, p00]; omega
      · rw [g1, p01]; omega
      · rw [g2, p02]; omega
    · by_cases c0 : min (f (Q * (3 * t) + v)) (min (f (Q * (3 * t) + v + Q) + h) (f (Q * (3 * t) + v + 2 * Q) + m)) = f (Q * (3 * t) + v)
      · exact ⟨0, by omega, by omega, by rw [g0, p00]; omega⟩
      · by_cases c1 : min (f (Q * (3 * t) + v)) (min (f (Q * (3 * t) + v + Q) + h) (f (Q * (3 * t) + v + 2 * Q) + m)) = f (Q * (3 * t) + v + Q) + h
        · exact ⟨1, by omega, by omega, by rw [g1, p01]; exact c1⟩
        · exact ⟨2, by omega, by omega, by rw [g2, p02]; omega⟩
  · rw [g1, spH_1 hQ hv]
    refine ⟨fun e e0 e2 => ?_, ?_⟩
    · have he : e = 0 ∨ e = 1 ∨ e = 2 := by omega
      rcases he with rfl | rfl | rfl
      · rw [g0, p10]; omega
      · rw [g1, p11]; omega
      · rw [g2, p12]; omega
    · by_cases c0 : min (f (Q * (3 * t) + v + Q)) (min (f (Q * (3 * t) + v)) (f (Q * (3 * t) + v + 2 * Q)) + h) = f (Q * (3 * t) + v + Q)
      · exact ⟨1, by omega, by omega, by rw [g1, p11]; omega⟩
      · by_cases c1 : min (f (Q * (3 * t) + v + Q)) (min (f (Q * (3 * t) + v)) (f (Q * (3 * t) + v + 2 * Q)) + h) = f (Q * (3 * t) + v) + h
        · exact ⟨0, by omega, by omega, by rw [g0, p10]; exact c1⟩
        · exact ⟨2, by omega, by omega, by rw [g2, p12]; omega⟩
  · rw [g2, spH_2 hQ hv]
    refine ⟨fun e e0 e2 => ?_, ?_⟩
    · have he : e = 0 ∨ e = 1 ∨ e = 2 := by omega
      rcases he with rfl | rfl | rfl
      · rw [g0, p20]; omega
      · rw [g1, p21]; omega
      · rw [g2, p22]; omega
    · by_cases c0 : min (f (Q * (3 * t) + v + 2 * Q)) (min (f (Q * (3 * t) + v + Q) + h) (f (Q * (3 * t) + v) + m)) = f (Q * (3 * t) + v + 2 * Q)
      · exact ⟨2, by omega, by omega, by rw [g2, p22]; omega⟩
      · by_cases c1 : min (f (Q * (3 * t) + v + 2 * Q)) (min (f (Q * (3 * t) + v + Q) + h) (f (Q * (3 * t) + v) + m)) = f (Q * (3 * t) + v + Q) + h
        · exact ⟨1, by omega, by omega, by rw [g1, p21]; exact c1⟩
        · exact ⟨0, by omega, by omega, by rw [g0, p20]; omega⟩
theorem parts_of {Q t d v : Int} (hQ : 0 < Q) (hv : 0 ≤ v ∧ v < Q) (hd : 0 ≤ d ∧ d ≤ 2) : (Q * (3 * t) + d * Q + v) / Q = 3 * t + d ∧ (Q * (3 * t) + d * Q + v) / (3 * Q) = t := by
  have e1 : (Q * (3 * t) + d * Q + v) / Q = 3 * t + d := by
    rw [show Q * (3 * t) + d * Q + v = v + Q * (3 * t + d) from by rw [Int.mul_add, Int.mul_comm Q d]; omega, Int.add_mul_ediv_left _ _ (by omega), Int.ediv_eq_zero_of_lt hv.1 hv.2]
    omega
  refine ⟨e1, ?_⟩
  rw [show 3 * Q = Q * 3 from Int.mul_comm _ _, ← Int.ediv_ediv_of_nonneg (show 0 ≤ Q by omega), e1]
  omega
/-- after k holes: the least over the plays that agree from hole k on -/
theorem sps_least {m h : Int} {f : Int → Int} {N : Int} {H : Nat} (hm : 0 ≤ m) (hh : 0 ≤ h) (hN : N = ((2 * 3 ^ H : Nat) : Int)) : ∀ k, k ≤ H → ∀ p, 0 ≤ p → p < N → (∀ q, 0 ≤ q → q < N → q / ((3 ^ k : Nat) : Int) = p / ((3 ^ k : Nat) : Int) → sps m h f k p ≤ dC m h k p q + f q) ∧ ∃ q, 0 ≤ q ∧ q < N ∧ q / ((3 ^ k : Nat) : Int) = p / ((3 ^ k : Nat) : Int) ∧ sps m h f k p = dC m h k p q + f q := by
  intro k
  induction k with
  | zero =>
    intro _ p h0 h1
    have e : ((3 ^ 0 : Nat) : Int) = 1 := rfl
    refine ⟨fun q q0 q1 hq => ?_, p, h0, h1, rfl, ?_⟩
    · rw [e, Int.ediv_one, Int.ediv_one] at hq
      rw [hq]
      show f p ≤ 0 + f p
      omega
    · show f p = 0 + f p
      omega
  | succ k ih =>
    intro hk p h0 h1
    have ihk := ih (by omega)
    have hQ := p3_pos k
    have hsp : N = ((3 ^ k : Nat) : Int) * (3 * ((2 * 3 ^ (H - k - 1) : Nat) : Int)) := by rw [hN, N_split (show k < H by omega)]; push_cast; rfl
    have hQs := p3_succ k
    obtain ⟨t, d, v, ht, hd0, hd2, hv0, hv1, e⟩ := q3_split hQ h0
    have hB0 : 0 ≤ ((3 ^ k : Nat) : Int) * (3 * t) := Int.mul_nonneg (by omega) (by omega)
    have htM : t < ((2 * 3 ^ (H - k - 1) : Nat) : Int) := by
      apply Int.not_le.mp
      intro h9
      have h8 := Int.mul_le_mul_of_nonneg_left (show 3 * ((2 * 3 ^ (H - k - 1) : Nat) : Int) ≤ 3 * t by omega) (show 0 ≤ ((3 ^ k : Nat) : Int) by omega)
      have h7 : 0 ≤ d * ((3 ^ k : Nat) : Int) := Int.mul_nonneg hd0 (by omega)
      omega
    have hB3 : ((3 ^ k : Nat) : Int) * (3 * t) + 3 * ((3 ^ k : Nat) : Int) ≤ N := by
      have h9 := Int.mul_le_mul_of_nonneg_left (show 3 * t + 3 ≤ 3 * ((2 * 3 ^ (H - k - 1) : Nat) : Int) by omega) (show 0 ≤ ((3 ^ k : Nat) : Int) by omega)
      rw [Int.mul_add, ← hsp] at h9
      omega
    have hin : ∀ e', 0 ≤ e' → e' ≤ 2 → 0 ≤ ((3 ^ k : Nat) : Int) * (3 * t) + e' * ((3 ^ k : Nat) : Int) + v ∧ ((3 ^ k : Nat) : Int) * (3 * t) + e' * ((3 ^ k : Nat) : Int) + v < N := by
      intro e' a0 a2
      have a3 : e' = 0 ∨ e' = 1 ∨ e' = 2 := by omega
      rcases a3 with rfl | rfl | rfl <;> omega
    have hpQ := parts_of (t := t) (d := d) hQ ⟨hv0, hv1⟩ ⟨hd0, hd2⟩
    rw [← e] at hpQ
    have hdp : dgt p k = d := by unfold dgt; rw [hpQ.1]; omega
    have hlow : ∀ e' q, dC m h k (((3 ^ k : Nat) : Int) * (3 * t) + e' * ((3 ^ k : Nat) : Int) + v) q = dC m h k p q := by
      intro e' q
      have e2 : ((3 ^ k : Nat) : Int) * (3 * t) + e' * ((3 ^ k : Nat) : Int) + v = p + ((3 ^ k : Nat) : Int) * (e' - d) := by
        rw [e, Int.mul_sub, Int.mul_comm _ e', Int.mul_comm _ d]; omega
      rw [e2]
      exact dC_add k (Nat.le_refl _)
    have h3 := sp3 (m := m) (h := h) (f := sps m h f k) (t := t) (d := d) hQ ⟨hv0, hv1⟩ ⟨hd0, hd2⟩
    rw [← e] at h3
    show (∀ q, 0 ≤ q → q < N → q / ((3 ^ (k + 1) : Nat) : Int) = p / ((3 ^ (k + 1) : Nat) : Int) → spH m h ((3 ^ k : Nat) : Int) (sps m h f k) p ≤ dC m h k p q + pd m h (dgt p k) (dgt q k) + f q) ∧ ∃ q, 0 ≤ q ∧ q < N ∧ q / ((3 ^ (k + 1) : Nat) : Int) = p / ((3 ^ (k + 1) : Nat) : Int) ∧ spH m h ((3 ^ k : Nat) : Int) (sps m h f k) p = dC m h k p q + pd m h (dgt p k) (dgt q k) + f q
    rw [hQs, hdp, hpQ.2]
    refine ⟨fun q q0 q1 hq => ?_, ?_⟩
    · obtain ⟨t', d', v', ht', hd0', hd2', hv0', hv1', e'⟩ := q3_split hQ q0
      have hqQ := parts_of (t := t') (d := d') hQ ⟨hv0', hv1'⟩ ⟨hd0', hd2'⟩
      rw [← e'] at hqQ
      have hdq : dgt q k = d' := by unfold dgt; rw [hqQ.1]; omega
      have ett : t' = t := by rw [← hqQ.2, hq]
      have a1 := h3.1 d' hd0' hd2'
      have a2 := hin d' hd0' hd2'
      have a3 := (ihk _ a2.1 a2.2).1 q q0 q1 (by rw [(parts_of (t := t) (d := d') hQ ⟨hv0, hv1⟩ ⟨hd0', hd2'⟩).1, hqQ.1, ett])
      rw [hlow] at a3
      rw [hdq]
      omega
    · obtain ⟨e', a0, a2, a3⟩ := h3.2
      have a4 := hin e' a0 a2
      obtain ⟨q, q0, q1, hq, a5⟩ := (ihk _ a4.1 a4.2).2
      have a6 := parts_of (t := t) (d := e') hQ ⟨hv0, hv1⟩ ⟨a0, a2⟩
      rw [a6.1] at hq
      have hdq : dgt q k = e' := by unfold dgt; rw [hq]; omega
      refine ⟨q, q0, q1, ?_, ?_⟩
      · rw [show 3 * ((3 ^ k : Nat) : Int) = ((3 ^ k : Nat) : Int) * 3 from Int.mul_comm _ _, ← Int.ediv_ediv_of_nonneg (show 0 ≤ ((3 ^ k : Nat) : Int) by omega), hq]
        omega
      · rw [hlow] at a5
        rw [hdq]
        omega
/-- the digits by literals -/
theorem dC_lit (m h p q : Int) : dC m h 7 p q = pd m h ((p) % 3) ((q) % 3) + pd m h ((p) / 3 % 3) ((q) / 3 % 3) + pd m h ((p) / 9 % 3) ((q) / 9 % 3) + pd m h ((p) / 27 % 3) ((q) / 27 % 3) + pd m h ((p) / 81 % 3) ((q) / 81 % 3) + pd m h ((p) / 243 % 3) ((q) / 243 % 3) + pd m h ((p) / 729 % 3) ((q) / 729 % 3) := by
  have e : ∀ x : Int, dgt x 0 = x % 3 ∧ dgt x 1 = x / 3 % 3 ∧ dgt x 2 = x / 9 % 3 ∧ dgt x 3 = x / 27 % 3 ∧ dgt x 4 = x / 81 % 3 ∧ dgt x 5 = x / 243 % 3 ∧ dgt x 6 = x / 729 % 3 := fun x => ⟨by show x / 1 % 3 = _; rw [Int.ediv_one], rfl, rfl, rfl, rfl, rfl, rfl⟩
  obtain ⟨a0, a1, a2, a3, a4, a5, a6⟩ := e p
  obtain ⟨b0, b1, b2, b3, b4, b5, b6⟩ := e q
  show 0 + pd m h (dgt p 0) (dgt q 0) + pd m h (dgt p 1) (dgt q 1) + pd m h (dgt p 2) (dgt q 2) + pd m h (dgt p 3) (dgt q 3) + pd m h (dgt p 4) (dgt q 4) + pd m h (dgt p 5) (dgt q 5) + pd m h (dgt p 6) (dgt q 6) = _
  rw [a0, a1, a2, a3, a4, a5, a6, b0, b1, b2, b3, b4, b5, b6]
  omega
theorem dC_top {m h p q : Int} {H : Nat} (hp0 : 0 ≤ p) (hp : p < ((3 ^ H : Nat) : Int)) (hq0 : 0 ≤ q) (hq : q < ((3 ^ H : Nat) : Int)) : ∀ k, H ≤ k → dC m h k p q = dC m h H p q := by
  intro k
  induction k with
  | zero => intro hk; have : H = 0 := by omega
            rw [this]
  | succ k ih =>
    intro hk
    by_cases e : H = k + 1
    · rw [e]
    · have hkk := p3_mono (show H ≤ k by omega)
      show dC m h k p q + pd m h (dgt p k) (dgt q k) = _
      rw [ih (by omega), dgt_small hp0 (by omega), dgt_small hq0 (by omega), pd_0]
      omega
/-- the cost of a change, by the holes' covers -/
def coD (m h b : Int) (H : Nat) (p q : Int) : Int := dC m h H p q + (if (p < ((3 ^ H : Nat) : Int) ↔ q < ((3 ^ H : Nat) : Int)) then 0 else b)
theorem fgF_dg {m h p q : Int} {H : Nat} : dC m h H (fgF ((3 ^ H : Nat) : Int) p) q = dC m h H p q := by
  unfold fgF
  split
  · rfl
  · rw [show p - ((3 ^ H : Nat) : Int) = p + ((3 ^ H : Nat) : Int) * (-1) from by omega]
    exact dC_add H (Nat.le_refl _)
theorem prC_coD {m h b p q : Int} {H : Nat} (hH : H ≤ 7) (hp0 : 0 ≤ p) (hp : p < 2 * ((3 ^ H : Nat) : Int)) (hq0 : 0 ≤ q) (hq : q < 2 * ((3 ^ H : Nat) : Int)) : prC m h b (cdP ((3 ^ H : Nat) : Int) p) (cdP ((3 ^ H : Nat) : Int) q) = coD m h b H p q := by
  have hf : ∀ x : Int, 0 ≤ x → x < 2 * ((3 ^ H : Nat) : Int) → 0 ≤ fgF ((3 ^ H : Nat) : Int) x ∧ fgF ((3 ^ H : Nat) : Int) x < ((3 ^ H : Nat) : Int) := fun x a0 a1 => by unfold fgF; split <;> omega
  have f1 := hf p hp0 hp
  have f2 := hf q hq0 hq
  rw [prC_dg, ← dC_lit, dC_top f1.1 f1.2 f2.1 f2.2 7 hH, fgF_dg, dC_comm, fgF_dg, dC_comm]
  rfl
theorem coD_ge {m h b : Int} {H : Nat} {p q : Int} (hm : 0 ≤ m) (hh : 0 ≤ h) (hb : 0 ≤ b) : 0 ≤ coD m h b H p q := by
  have := dC_ge (p := p) (q := q) hm hh H
  unfold coD
  split <;> omega
theorem coD_self (m h b : Int) (H : Nat) (p : Int) : coD m h b H p p = 0 := by
  unfold coD
  rw [dC_self, if_pos Iff.rfl]
  rfl
/-- after all holes and the breath -/
theorem spB_least {m h b : Int} {f : Int → Int} {H : Nat} (hm : 0 ≤ m) (hh : 0 ≤ h) (hb : 0 ≤ b) {p : Int} (h0 : 0 ≤ p) (h1 : p < 2 * ((3 ^ H : Nat) : Int)) :
    (∀ q, 0 ≤ q → q < 2 * ((3 ^ H : Nat) : Int) → spB b ((3 ^ H : Nat) : Int) (sps m h f H) p ≤ coD m h b H p q + f q) ∧ ∃ q, 0 ≤ q ∧ q < 2 * ((3 ^ H : Nat) : Int) ∧ spB b ((3 ^ H : Nat) : Int) (sps m h f H) p = coD m h b H p q + f q := by
  have hN : 2 * ((3 ^ H : Nat) : Int) = ((2 * 3 ^ H : Nat) : Int) := by push_cast; rfl
  have L := fun x a0 a1 => sps_least (f := f) hm hh hN H (Nat.le_refl _) x a0 a1
  have hp0 := p3_pos H
  generalize hC : ((3 ^ H : Nat) : Int) = C at *
  have dv : ∀ x, 0 ≤ x → x < 2 * C → x / C = if x < C then 0 else 1 := by
    intro x a0 a1
    by_cases e : x < C
    · rw [if_pos e, Int.ediv_eq_zero_of_lt a0 e]
    · rw [if_neg e, show x = (x - C) + C * 1 from by omega, Int.add_mul_ediv_left _ _ (by omega), Int.ediv_eq_zero_of_lt (by omega) (by omega)]
      rfl
  have hadd : ∀ x q, dC m h H (x + C) q = dC m h H x q := fun x q => by
    have := dC_add (m := m) (h := h) (p := x) (x := 1) (q := q) (K := H) H (Nat.le_refl _)
    rw [hC, Int.mul_one] at this
    exact this
  have hsub : ∀ x q, dC m h H (x - C) q = dC m h H x q := fun x q => by
    have := hadd (x - C) q
    rw [show x - C + C = x from by omega] at this
    exact this.symm
  have L1 := L p h0 h1
  have dvp := dv p h0 h1
  unfold spB coD
  rw [hC]
  by_cases e : p < C
  · have L2 := L (p + C) (by omega) (by omega)
    have dvp2 := dv (p + C) (by omega) (by omega)
    rw [if_neg (show ¬ (p + C < C) by omega)] at dvp2
    rw [if_pos e] at dvp ⊢
    refine ⟨fun q q0 q1 => ?_, ?_⟩
    · have dvq := dv q q0 q1
      by_cases eq : q < C
      · rw [if_pos eq] at dvq
        have a1 := L1.1 q q0 q1 (by rw [dvq, dvp])
        rw [if_pos (by omega)]
        omega
      · rw [if_neg eq] at dvq
        have a1 := L2.1 q q0 q1 (by rw [dvq, dvp2])
        rw [hadd] at a1
        rw [if_neg (by omega)]
        omega
    · by_cases c : sps m h f H p ≤ sps m h f H (p + C) + b
      · obtain ⟨q, q0, q1, hq, a1⟩ := L1.2
        have dvq := dv q q0 q1
        rw [dvp, dvq] at hq
        have eq : q < C := by
          apply Decidable.byContradiction
          intro z
          rw [if_neg z] at hq
          omega
        refine ⟨q, q0, q1, ?_⟩
        rw [if_pos (by omega)]
        omega
      · obtain ⟨q, q0, q1, hq, a1⟩ := L2.2
        have dvq := dv q q0 q1
        rw [dvp2, dvq] at hq
        have eq : ¬ q < C := by
          intro z
          rw [if_pos z] at hq
          omega
        rw [hadd] at a1
        refine ⟨q, q0, q1, ?_⟩
        rw [if_neg (by omega)]
        omega
  · have L2 := L (p - C) (by omega) (by omega)
    have dvp2 := dv (p - C) (by omega) (by omega)
    rw [if_pos (show p - C < C by omega)] at dvp2
    rw [if_neg e] at dvp ⊢
    refine ⟨fun q q0 q1 => ?_, ?_⟩
    · have dvq := dv q q0 q1
      by_cases eq : q < C
      · rw [if_pos eq] at dvq
        have a1 := L2.1 q q0 q1 (by rw [dvq, dvp2])
        rw [hsub] at a1
        rw [if_neg (by omega)]
        omega
      · rw [if_neg eq] at dvq
        have a1 := L1.1 q q0 q1 (by rw [dvq, dvp])
        rw [if_pos (by omega)]
        omega
    · by_cases c : sps m h f H p ≤ sps m h f H (p - C) + b
      · obtain ⟨q, q0, q1, hq, a1⟩ := L1.2
        have dvq := dv q q0 q1
        rw [dvp, dvq] at hq
        have eq : ¬ q < C := by
          intro z
          rw [if_pos z] at hq
          omega
        refine ⟨q, q0, q1, ?_⟩
        rw [if_pos (by omega)]
        omega
      · obtain ⟨q, q0, q1, hq, a1⟩ := L2.2
        have dvq := dv q q0 q1
        rw [dvp2, dvq] at hq
        have eq : q < C := by
          apply Decidable.byContradiction
          intro z
          rw [if_neg z] at hq
          omega
        rw [hsub] at a1
        refine ⟨q, q0, q1, ?_⟩
        rw [if_neg (by omega)]
        omega
theorem mnN_ok (g : Nat → Int) (n : Nat) : (∀ i, i < n → mnN g n ≤ g i) ∧ mnN g n ≤ 1000000 ∧ (mnN g n = 1000000 ∨ ∃ i, i < n ∧ mnN g n = g i) := by
  induction n with
  | zero => exact ⟨fun i hi => by omega, Int.le_refl _, Or.inl rfl⟩
  | succ n ih =>
    obtain ⟨a1, a2, a3⟩ := ih
    show (∀ i, i < n + 1 → min (mnN g n) (g n) ≤ g i) ∧ min (mnN g n) (g n) ≤ 1000000 ∧ (min (mnN g n) (g n) = 1000000 ∨ ∃ i, i < n + 1 ∧ min (mnN g n) (g n) = g i)
    refine ⟨fun i hi => ?_, by omega, ?_⟩
    · by_cases e : i = n
      · rw [e]; omega
      · have := a1 i (by omega); omega
    · by_cases c : mnN g n ≤ g n
      · rcases a3 with a3 | ⟨i, hi, a3⟩
        · left; omega
        · right; exact ⟨i, by omega, by omega⟩
      · right; exact ⟨n, by omega, by omega⟩
/-- the row of all plays holds the least over the next note's plays -/
theorem hoF_mn {m h b : Int} {H cB : Nat} {plB ahB : Nat → Int} (hm : 0 ≤ m) (hh : 0 ≤ h) (hb : 0 ≤ b) (hpl : ∀ i, i < cB → 0 ≤ plB i ∧ plB i < 2 * ((3 ^ H : Nat) : Int)) (hinj : ∀ i j, i < cB → j < cB → plB i = plB j → i = j) (hah : ∀ i, i < cB → ahB i ≤ 1000000) {p : Int} (h0 : 0 ≤ p) (h1 : p < 2 * ((3 ^ H : Nat) : Int)) : hoF m h b H plB ahB cB p = mnN (fun z => coD m h b H p (plB z) + ahB z) cB := by
  have f0 : ∀ n, n ≤ cB → (∀ i, i < n → f0N plB ahB n (plB i) = ahB i) ∧ (∀ q, (∀ i, i < n → q ≠ plB i) → f0N plB ahB n q = 1000000) ∧ ∀ q, f0N plB ahB n q ≤ 1000000 := by
    intro n
    induction n with
    | zero => exact fun _ => ⟨fun i hi => by omega, fun q _ => rfl, fun q => Int.le_refl _⟩
    | succ n ih =>
      intro hn
      obtain ⟨a1, a2, a3⟩ := ih (by omega)
      refine ⟨fun i hi => ?_, fun q hq => ?_, fun q => ?_⟩
      · rw [f0N]
        by_cases e : plB i = plB n
        · rw [if_pos e, hinj i n (by omega) (by omega) e]
        · rw [if_neg e]
          exact a1 i (by
            have : i ≠ n := fun z => e (by rw [z])
            omega)
      · rw [f0N, if_neg (hq n (by omega))]
        exact a2 q (fun i hi => hq i (by omega))
      · rw [f0N]
        split
        · exact hah n (by omega)
        · exact a3 q
  obtain ⟨g1, g2, g3⟩ := f0 cB (Nat.le_refl _)
  obtain ⟨l1, q, q0, q1, l2⟩ := spB_least (f := f0N plB ahB cB) hm hh hb h0 h1
  obtain ⟨n1, n2, n3⟩ := mnN_ok (fun z => coD m h b H p (plB z) + ahB z) cB
  unfold hoF
  refine Int.le_antisymm ?_ ?_
  · rcases n3 with n3 | ⟨i, hi, n3⟩
    · rw [n3]
      have a1 := l1 p h0 h1
      rw [coD_self] at a1
      have := g3 p
      omega
    · rw [n3]
      have a1 := l1 (plB i) (hpl i hi).1 (hpl i hi).2
      rw [g1 i hi] at a1
      exact a1
  · rw [l2]
    by_cases e : ∃ i, i < cB ∧ q = plB i
    · obtain ⟨i, hi, e⟩ := e
      rw [e, g1 i hi]
      exact n1 i hi
    · have a1 := g2 q (fun i hi z => e ⟨i, hi, z⟩)
      rw [a1]
      have := coD_ge (H := H) (p := p) (q := q) hm hh hb
      omega
end C38
