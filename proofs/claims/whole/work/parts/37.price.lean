/-! The price of a change: bits and digits -/
section C37
def pd (m h a b : Int) : Int := if a = b then 0 else if a = 1 ∨ b = 1 then h else m
def dgt (p : Int) (k : Nat) : Int := p / ((3 ^ k : Nat) : Int) % 3
def dC (m h : Int) : Nat → Int → Int → Int
  | 0, _, _ => 0
  | k + 1, p, q => dC m h k p q + pd m h (dgt p k) (dgt q k)
theorem tb_cb (k : Nat) (d : Int) (i : Nat) : (cb k d).testBit i = ((decide (d = 1) && decide (k = i)) || (decide (d = 2) && decide (k + 7 = i))) := by
  unfold cb
  by_cases h1 : d = 1
  · rw [if_pos h1, Nat.testBit_two_pow]
    have h2 : ¬ d = 2 := by omega
    simp [h1]
  · rw [if_neg h1]
    by_cases h2 : d = 2
    · rw [if_pos h2, Nat.testBit_two_pow]
      simp [h2]
    · rw [if_neg h2, Nat.zero_testBit]
      simp [h1, h2]
theorem tbL0 (p : Int) : (cdN p).testBit 0 = decide ((p) % 3 = 1) := by
  unfold cdN
  simp only [Nat.testBit_or, tb_cb]
  simp
theorem tbH0 (p : Int) : (cdN p).testBit 7 = decide ((p) % 3 = 2) := by
  unfold cdN
  simp only [Nat.testBit_or, tb_cb]
  simp
theorem tbL1 (p : Int) : (cdN p).testBit 1 = decide ((p) / 3 % 3 = 1) := by
  unfold cdN
  simp only [Nat.testBit_or, tb_cb]
  simp
theorem tbH1 (p : Int) : (cdN p).testBit 8 = decide ((p) / 3 % 3 = 2) := by
  unfold cdN
  simp only [Nat.testBit_or, tb_cb]
  simp
theorem tbL2 (p : Int) : (cdN p).testBit 2 = decide ((p) / 9 % 3 = 1) := by
  unfold cdN
  simp only [Nat.testBit_or, tb_cb]
  simp
theorem tbH2 (p : Int) : (cdN p).testBit 9 = decide ((p) / 9 % 3 = 2) := by
  unfold cdN
  simp only [Nat.testBit_or, tb_cb]
  simp
theorem tbL3 (p : Int) : (cdN p).testBit 3 = decide ((p) / 27 % 3 = 1) := by
  unfold cdN
  simp only [Nat.testBit_or, tb_cb]
  simp
theorem tbH3 (p : Int) : (cdN p).testBit 10 = decide ((p) / 27 % 3 = 2) := by
  unfold cdN
  simp only [Nat.testBit_or, tb_cb]
  simp
theorem tbL4 (p : Int) : (cdN p).testBit 4 = decide ((p) / 81 % 3 = 1) := by
  unfold cdN
  simp only [Nat.testBit_or, tb_cb]
  simp
theorem tbH4 (p : Int) : (cdN p).testBit 11 = decide ((p) / 81 % 3 = 2) := by
  unfold cdN
  simp only [Nat.testBit_or, tb_cb]
  simp
theorem tbL5 (p : Int) : (cdN p).testBit 5 = decide ((p) / 243 % 3 = 1) := by
  unfold cdN
  simp only [Nat.testBit_or, tb_cb]
  simp
theorem tbH5 (p : Int) : (cdN p).testBit 12 = decide ((p) / 243 % 3 = 2) := by
  unfold cdN
  simp only [Nat.testBit_or, tb_cb]
  simp
theorem tbL6 (p : Int) : (cdN p).testBit 6 = decide ((p) / 729 % 3 = 1) := by
  unfold cdN
  simp only [Nat.testBit_or, tb_cb]
  simp
theorem tbH6 (p : Int) : (cdN p).testBit 13 = decide ((p) / 729 % 3 = 2) := by
  unfold cdN
  simp only [Nat.testBit_or, tb_cb]
  simp
theorem tbS (p : Int) : (cdN p).testBit 14 = false := by
  unfold cdN
  simp only [Nat.testBit_or, tb_cb]
  simp
theorem hole_term (m h a b : Int) (ha : 0 ≤ a ∧ a ≤ 2) (hb : 0 ≤ b ∧ b ≤ 2) : m * (((((decide (a = 1) ^^ decide (b = 1)) || (decide (a = 2) ^^ decide (b = 2))).toNat : Nat) : Int) - (((((decide (a = 1) ^^ decide (b = 1)) || (decide (a = 2) ^^ decide (b = 2))) && (decide (a = 1) || decide (b = 1))).toNat : Nat) : Int)) + h * (((((decide (a = 1) ^^ decide (b = 1)) || (decide (a = 2) ^^ decide (b = 2))) && (decide (a = 1) || decide (b = 1))).toNat : Nat) : Int) = pd m h a b := by
  have h1 : a = 0 ∨ a = 1 ∨ a = 2 := by omega
  have h2 : b = 0 ∨ b = 1 ∨ b = 2 := by omega
  rcases h1 with rfl | rfl | rfl <;> rcases h2 with rfl | rfl | rfl <;> simp [pd]
theorem tb_dfH (c d i : Nat) (hi : i < 7) : (dfH c d).testBit i = ((c.testBit i ^^ d.testBit i) || (c.testBit (i + 7) ^^ d.testBit (i + 7))) := by
  unfold dfH
  rw [Nat.testBit_and, Nat.testBit_or, Nat.testBit_xor, Nat.testBit_div_two_pow, Nat.testBit_xor]
  have h : (127 : Nat).testBit i = true := by
    have h2 : ∀ j, j < 7 → (127 : Nat).testBit j = true := by decide
    exact h2 i hi
  rw [h, Bool.and_true]
theorem tb_16384 (i : Nat) (hi : i < 14) : (16384 : Nat).testBit i = false := by
  have h2 : ∀ j, j < 14 → (16384 : Nat).testBit j = false := by decide
  exact h2 i hi
theorem cdP_lo (c p : Int) (i : Nat) (hi : i < 14) : (cdP c p).testBit i = (cdN (fgF c p)).testBit i := by
  unfold cdP
  rw [Nat.testBit_or]
  split
  · rw [Nat.zero_testBit, Bool.or_false]
  · rw [tb_16384 i hi, Bool.or_false]
theorem cdP_14 (c p : Int) : (cdP c p).testBit 14 = !decide (p < c) := by
  unfold cdP
  rw [Nat.testBit_or, tbS, Bool.false_or]
  split
  · rename_i h; rw [Nat.zero_testBit]; simp [h]
  · rename_i h; simp [h]; decide
theorem dg_rng (x : Int) : 0 ≤ x % 3 ∧ x % 3 ≤ 2 := by omega
theorem prC_dg (m h b c p q : Int) : prC m h b (cdP c p) (cdP c q) = pd m h ((fgF c p) % 3) ((fgF c q) % 3) + pd m h ((fgF c p) / 3 % 3) ((fgF c q) / 3 % 3) + pd m h ((fgF c p) / 9 % 3) ((fgF c q) / 9 % 3) + pd m h ((fgF c p) / 27 % 3) ((fgF c q) / 27 % 3) + pd m h ((fgF c p) / 81 % 3) ((fgF c q) / 81 % 3) + pd m h ((fgF c p) / 243 % 3) ((fgF c q) / 243 % 3) + pd m h ((fgF c p) / 729 % 3) ((fgF c q) / 729 % 3) + (if (p < c ↔ q < c) then 0 else b) := by
  unfold prC pc7
  have e14 : ((cdP c p ^^^ cdP c q) / 2 ^ 14 &&& 1 : Nat) = ((cdP c p).testBit 14 ^^ (cdP c q).testBit 14).toNat := by
    rw [← Nat.testBit_xor, Nat.and_one_is_mod, Nat.toNat_testBit]
  rw [e14, cdP_14, cdP_14]
  have a0 : (dfH (cdP c p) (cdP c q)).testBit 0 = ((decide ((fgF c p) % 3 = 1) ^^ decide ((fgF c q) % 3 = 1)) || (decide ((fgF c p) % 3 = 2) ^^ decide ((fgF c q) % 3 = 2))) := by
    rw [tb_dfH _ _ 0 (by decide), cdP_lo c p 0 (by decide), cdP_lo c q 0 (by decide), cdP_lo c p (0 + 7) (by decide), cdP_lo c q (0 + 7) (by decide), tbL0, tbL0, tbH0, tbH0]
  have b0 : (dfH (cdP c p) (cdP c q) &&& (cdP c p ||| cdP c q)).testBit 0 = (((decide ((fgF c p) % 3 = 1) ^^ decide ((fgF c q) % 3 = 1)) || (decide ((fgF c p) % 3 = 2) ^^ decide ((fgF c q) % 3 = 2))) && (decide ((fgF c p) % 3 = 1) || decide ((fgF c q) % 3 = 1))) := by
    rw [Nat.testBit_and, a0, Nat.testBit_or, cdP_lo c p 0 (by decide), cdP_lo c q 0 (by decide), tbL0, tbL0]
  have a1 : (dfH (cdP c p) (cdP c q)).testBit 1 = ((decide ((fgF c p) / 3 % 3 = 1) ^^ decide ((fgF c q) / 3 % 3 = 1)) || (decide ((fgF c p) / 3 % 3 = 2) ^^ decide ((fgF c q) / 3 % 3 = 2))) := by
    rw [tb_dfH _ _ 1 (by decide), cdP_lo c p 1 (by decide), cdP_lo c q 1 (by decide), cdP_lo c p (1 + 7) (by decide), cdP_lo c q (1 + 7) (by decide), tbL1, tbL1, tbH1, tbH1]
  have b1 : (dfH (cdP c p) (cdP c q) &&& (cdP c p ||| cdP c q)).testBit 1 = (((decide ((fgF c p) / 3 % 3 = 1) ^^ decide ((fgF c q) / 3 % 3 = 1)) || (decide ((fgF c p) / 3 % 3 = 2) ^^ decide ((fgF c q) / 3 % 3 = 2))) && (decide ((fgF c p) / 3 % 3 = 1) || decide ((fgF c q) / 3 % 3 = 1))) := by
    rw [Nat.testBit_and, a1, Nat.testBit_or, cdP_lo c p 1 (by decide), cdP_lo c q 1 (by decide), tbL1, tbL1]
  have a2 : (dfH (cdP c p) (cdP c q)).testBit 2 = ((decide ((fgF c p) / 9 % 3 = 1) ^^ decide ((fgF c q) / 9 % 3 = 1)) || (decide ((fgF c p) / 9 % 3 = 2) ^^ decide ((fgF c q) / 9 % 3 = 2))) := by
    rw [tb_dfH _ _ 2 (by decide), cdP_lo c p 2 (by decide), cdP_lo c q 2 (by decide), cdP_lo c p (2 + 7) (by decide), cdP_lo c q (2 + 7) (by decide), tbL2, tbL2, tbH2, tbH2]
  have b2 : (dfH (cdP c p) (cdP c q) &&& (cdP c p ||| cdP c q)).testBit 2 = (((decide ((fgF c p) / 9 % 3 = 1) ^^ decide ((fgF c q) / 9 % 3 = 1)) || (decide ((fgF c p) / 9 % 3 = 2) ^^ decide ((fgF c q) / 9 % 3 = 2))) && (decide ((fgF c p) / 9 % 3 = 1) || decide ((fgF c q) / 9 % 3 = 1))) := by
    rw [Nat.testBit_and, a2, Nat.testBit_or, cdP_lo c p 2 (by decide), cdP_lo c q 2 (by decide), tbL2, tbL2]
  have a3 : (dfH (cdP c p) (cdP c q)).testBit 3 = ((decide ((fgF c p) / 27 % 3 = 1) ^^ decide ((fgF c q) / 27 % 3 = 1)) || (decide ((fgF c p) / 27 % 3 = 2) ^^ decide ((fgF c q) / 27 % 3 = 2))) := by
    rw [tb_dfH _ _ 3 (by decide), cdP_lo c p 3 (by decide), cdP_lo c q 3 (by decide), cdP_lo c p (3 + 7) (by decide), cdP_lo c q (3 + 7) (by decide), tbL3, tbL3, tbH3, tbH3]
  have b3 : (dfH (cdP c p) (cdP c q) &&& (cdP c p ||| cdP c q)).testBit 3 = (((decide ((fgF c p) / 27 % 3 = 1) ^^ decide ((fgF c q) / 27 % 3 = 1)) || (decide ((fgF c p) / 27 % 3 = 2) ^^ decide ((fgF c q) / 27 % 3 = 2))) && (decide ((fgF c p) / 27 % 3 = 1) || decide ((fgF c q) / 27 % 3 = 1))) := by
    rw [Nat.testBit_and, a3, Nat.testBit_or, cdP_lo c p 3 (by decide), cdP_lo c q 3 (by decide), tbL3, tbL3]
  have a4 : (dfH (cdP c p) (cdP c q)).testBit 4 = ((decide ((fgF c p) / 81 % 3 = 1) ^^ decide ((fgF c q) / 81 % 3 = 1)) || (decide ((fgF c p) / 81 % 3 = 2) ^^ decide ((fgF c q) / 81 % 3 = 2))) := by
    rw [tb_dfH _ _ 4 (by decide), cdP_lo c p 4 (by decide), cdP_lo c q 4 (by decide), cdP_lo c p (4 + 7) (by decide), cdP_lo c q (4 + 7) (by decide), tbL4, tbL4, tbH4, tbH4]
  have b4 : (dfH (cdP c p) (cdP c q) &&& (cdP c p ||| cdP c q)).testBit 4 = (((decide ((fgF c p) / 81 % 3 = 1) ^^ decide ((fgF c q) / 81 % 3 = 1)) || (decide ((fgF c p) / 81 % 3 = 2) ^^ decide ((fgF c q) / 81 % 3 = 2))) && (decide ((fgF c p) / 81 % 3 = 1) || decide ((fgF c q) / 81 % 3 = 1))) := by
    rw [Nat.testBit_and, a4, Nat.testBit_or, cdP_lo c p 4 (by decide), cdP_lo c q 4 (by decide), tbL4, tbL4]
  have a5 : (dfH (cdP c p) (cdP c q)).testBit 5 = ((decide ((fgF c p) / 243 % 3 = 1) ^^ decide ((fgF c q) / 243 % 3 = 1)) || (decide ((fgF c p) / 243 % 3 = 2) ^^ decide ((fgF c q) / 243 % 3 = 2))) := by
    rw [tb_dfH _ _ 5 (by decide), cdP_lo c p 5 (by decide), cdP_lo c q 5 (by decide), cdP_lo c p (5 + 7) (by decide), cdP_lo c q (5 + 7) (by decide), tbL5, tbL5, tbH5, tbH5]
  have b5 : (dfH (cdP c p) (cdP c q) &&& (cdP c p ||| cdP c q)).testBit 5 = (((decide ((fgF c p) / 243 % 3 = 1) ^^ decide ((fgF c q) / 243 % 3 = 1)) || (decide ((fgF c p) / 243 % 3 = 2) ^^ decide ((fgF c q) / 243 % 3 = 2))) && (decide ((fgF c p) / 243 % 3 = 1) || decide ((fgF c q) / 243 % 3 = 1))) := by
    rw [Nat.testBit_and, a5, Nat.testBit_or, cdP_lo c p 5 (by decide), cdP_lo c q 5 (by decide), tbL5, tbL5]
  have a6 : (dfH (cdP c p) (cdP c q)).testBit 6 = ((decide ((fgF c p) / 729 % 3 = 1) ^^ decide ((fgF c q) / 729 % 3 = 1)) || (decide ((fgF c p) / 729 % 3 = 2) ^^ decide ((fgF c q) / 729 % 3 = 2))) := by
    rw [tb_dfH _ _ 6 (by decide), cdP_lo c p 6 (by decide), cdP_lo c q 6 (by decide), cdP_lo c p (6 + 7) (by decide), cdP_lo c q (6 + 7) (by decide), tbL6, tbL6, tbH6, tbH6]
  have b6 : (dfH (cdP c p) (cdP c q) &&& (cdP c p ||| cdP c q)).testBit 6 = (((decide ((fgF c p) / 729 % 3 = 1) ^^ decide ((fgF c q) / 729 % 3 = 1)) || (decide ((fgF c p) / 729 % 3 = 2) ^^ decide ((fgF c q) / 729 % 3 = 2))) && (decide ((fgF c p) / 729 % 3 = 1) || decide ((fgF c q) / 729 % 3 = 1))) := by
    rw [Nat.testBit_and, a6, Nat.testBit_or, cdP_lo c p 6 (by decide), cdP_lo c q 6 (by decide), tbL6, tbL6]
  have t0 := hole_term m h ((fgF c p) % 3) ((fgF c q) % 3) (dg_rng _) (dg_rng _)
  have t1 := hole_term m h ((fgF c p) / 3 % 3) ((fgF c q) / 3 % 3) (dg_rng _) (dg_rng _)
  have t2 := hole_term m h ((fgF c p) / 9 % 3) ((fgF c q) / 9 % 3) (dg_rng _) (dg_rng _)
  have t3 := hole_term m h ((fgF c p) / 27 % 3) ((fgF c q) / 27 % 3) (dg_rng _) (dg_rng _)
  have t4 := hole_term m h ((fgF c p) / 81 % 3) ((fgF c q) / 81 % 3) (dg_rng _) (dg_rng _)
  have t5 := hole_term m h ((fgF c p) / 243 % 3) ((fgF c q) / 243 % 3) (dg_rng _) (dg_rng _)
  have t6 := hole_term m h ((fgF c p) / 729 % 3) ((fgF c q) / 729 % 3) (dg_rng _) (dg_rng _)
  rw [a0, a1, a2, a3, a4, a5, a6, b0, b1, b2, b3, b4, b5, b6]
  have eb : b * ((((!decide (p < c)) ^^ (!decide (q < c))).toNat : Nat) : Int) = (if (p < c ↔ q < c) then 0 else b) := by
    by_cases h1 : p < c <;> by_cases h2 : q < c <;> simp [h1, h2]
  rw [eb]
  generalize ((((decide ((fgF c p) % 3 = 1) ^^ decide ((fgF c q) % 3 = 1)) || (decide ((fgF c p) % 3 = 2) ^^ decide ((fgF c q) % 3 = 2))).toNat : Nat)) = A0 at *
  generalize (((((decide ((fgF c p) % 3 = 1) ^^ decide ((fgF c q) % 3 = 1)) || (decide ((fgF c p) % 3 = 2) ^^ decide ((fgF c q) % 3 = 2))) && (decide ((fgF c p) % 3 = 1) || decide ((fgF c q) % 3 = 1))).toNat : Nat)) = B0 at *
  generalize ((((decide ((fgF c p) / 3 % 3 = 1) ^^ decide ((fgF c q) / 3 % 3 = 1)) || (decide ((fgF c p) / 3 % 3 = 2) ^^ decide ((fgF c q) / 3 % 3 = 2))).toNat : Nat)) = A1 at *
  generalize (((((decide ((fgF c p) / 3 % 3 = 1) ^^ decide ((fgF c q) / 3 % 3 = 1)) || (decide ((fgF c p) / 3 % 3 = 2) ^^ decide ((fgF c q) / 3 % 3 = 2))) && (decide ((fgF c p) / 3 % 3 = 1) || decide ((fgF c q) / 3 % 3 = 1))).toNat : Nat)) = B1 at *
  generalize ((((decide ((fgF c p) / 9 % 3 = 1) ^^ decide ((fgF c q) / 9 % 3 = 1)) || (decide ((fgF c p) / 9 % 3 = 2) ^^ decide ((fgF c q) / 9 % 3 = 2))).toNat : Nat)) = A2 at *
  generalize (((((decide ((fgF c p) / 9 % 3 = 1) ^^ decide ((fgF c q) / 9 % 3 = 1)) || (decide ((fgF c p) / 9 % 3 = 2) ^^ decide ((fgF c q) / 9 % 3 = 2))) && (decide ((fgF c p) / 9 % 3 = 1) || decide ((fgF c q) / 9 % 3 = 1))).toNat : Nat)) = B2 at *
  generalize ((((decide ((fgF c p) / 27 % 3 = 1) ^^ decide ((fgF c q) / 27 % 3 = 1)) || (decide ((fgF c p) / 27 % 3 = 2) ^^ decide ((fgF c q) / 27 % 3 = 2))).toNat : Nat)) = A3 at *
  generalize (((((decide ((fgF c p) / 27 % 3 = 1) ^^ decide ((fgF c q) / 27 % 3 = 1)) || (decide ((fgF c p) / 27 % 3 = 2) ^^ decide ((fgF c q) / 27 % 3 = 2))) && (decide ((fgF c p) / 27 % 3 = 1) || decide ((fgF c q) / 27 % 3 = 1))).toNat : Nat)) = B3 at *
  generalize ((((decide ((fgF c p) / 81 % 3 = 1) ^^ decide ((fgF c q) / 81 % 3 = 1)) || (decide ((fgF c p) / 81 % 3 = 2) ^^ decide ((fgF c q) / 81 % 3 = 2))).toNat : Nat)) = A4 at *
  generalize (((((decide ((fgF c p) / 81 % 3 = 1) ^^ decide ((fgF c q) / 81 % 3 = 1)) || (decide ((fgF c p) / 81 % 3 = 2) ^^ decide ((fgF c q) / 81 % 3 = 2))) && (decide ((fgF c p) / 81 % 3 = 1) || decide ((fgF c q) / 81 % 3 = 1))).toNat : Nat)) = B4 at *
  generalize ((((decide ((fgF c p) / 243 % 3 = 1) ^^ decide ((fgF c q) / 243 % 3 = 1)) || (decide ((fgF c p) / 243 % 3 = 2) ^^ decide ((fgF c q) / 243 % 3 = 2))).toNat : Nat)) = A5 at *
  generalize (((((decide ((fgF c p) / 243 % 3 = 1) ^^ decide ((fgF c q) / 243 % 3 = 1)) || (decide ((fgF c p) / 243 % 3 = 2) ^^ decide ((fgF c q) / 243 % 3 = 2))) && (decide ((fgF c p) / 243 % 3 = 1) || decide ((fgF c q) / 243 % 3 = 1))).toNat : Nat)) = B5 at *
  generalize ((((decide ((fgF c p) / 729 % 3 = 1) ^^ decide ((fgF c q) / 729 % 3 = 1)) || (decide ((fgF c p) / 729 % 3 = 2) ^^ decide ((fgF c q) / 729 % 3 = 2))).toNat : Nat)) = A6 at *
  generalize (((((decide ((fgF c p) / 729 % 3 = 1) ^^ decide ((fgF c q) / 729 % 3 = 1)) || (decide ((fgF c p) / 729 % 3 = 2) ^^ decide ((fgF c q) / 729 % 3 = 2))) && (decide ((fgF c p) / 729 % 3 = 1) || decide ((fgF c q) / 729 % 3 = 1))).toNat : Nat)) = B6 at *
  rw [← t0, ← t1, ← t2, ← t3, ← t4, ← t5, ← t6]
  push_cast
  simp only [Int.mul_add, Int.mul_sub]
  omega
end C37
