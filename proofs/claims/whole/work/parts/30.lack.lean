/-! Choice.lackingFrom, isPossible; Way's small methods -/
section C30
variable {g : gT} {σ : sT} {l : Nat → Nat}
/-- the first place from k on where P holds, in f places -/
def lkF (Q : Nat → Bool) : Nat → Nat → Int
  | 0, _ => -1
  | f + 1, k => if Q k then (k : Int) else lkF Q f (k + 1)
def lkQ (tu fr : Int → Int) (by_ : Int) (k : Nat) : Bool := decide (tu k ≠ -1) && decide (ctF fr (tu k + by_) = 0)
theorem isSt1 : isSt 1 := ⟨rfl, by decide, rfl, rfl, rfl, fun _ => rfl, fun _ => rfl, fun _ => rfl, rfl⟩
theorem lackingFrom_ok {o n pl : Nat} {b : Int} (hs : isCh o) (hn : σ 1 9 = (n : Int)) (hn40 : n ≤ 40) (hp : pl ≤ n) (ht : ∀ k, 0 ≤ k → k < (n : Int) → -1 ≤ σ 4 k ∧ σ 4 k ≤ 24) (hb : -12 ≤ b ∧ b ≤ 12) (hf : ∀ t, 0 ≤ t → t < 26 → 0 ≤ σ (o + 1) t ∧ σ (o + 1) t ≤ 100000) : Fw g zX0_lackingFrom [.ref o, .ref 1, iv (pl : Int), iv b] σ l (iv (lkF (lkQ (σ 4) (σ (o + 1)) b) (n - pl) pl)) := by
  refine Fn.of [some (.ref o), some (.ref 1), some (iv (pl : Int)), some (iv b), none] rfl (by decide) (Nat.le_of_ble_eq_true rfl) rfl ?_
  have loop : ∀ f k : Nat, k + f = n → lkF (lkQ (σ 4) (σ (o + 1)) b) f k = lkF (lkQ (σ 4) (σ (o + 1)) b) (n - pl) pl → ∀ i : Int, i = (k : Int) → FW g zX0_lackingFrom 0 0 (fun q σ' l' => q = .inl (some (iv (lkF (lkQ (σ 4) (σ (o + 1)) b) (n - pl) pl))) ∧ σ' = σ ∧ l' = l) 3 [some (.ref o), some (.ref 1), some (iv (pl : Int)), some (iv b), some (iv i)] [] σ l := by
    intro f
    induction f with
    | zero =>
      intro k hk he i hi
      subst hi
      refine g_iload4 dX0_lackingFrom_3 ?_
      refine g_aload1 dX0_lackingFrom_5 ?_
      refine f_geti (J := 9) rfl (by decide) rfl rfl fl_X0_85 dX0_lackingFrom_6 ?_
      rw [hn]
      refine g_icmp_ge ⟨by omega, by omega⟩ ⟨by omega, by omega⟩ (tgt := 48) dX0_lackingFrom_9 rfl (fun h9 => ?_) (fun h9 => absurd h9 (by omega))
      refine g_iconst dX0_lackingFrom_48 ?_
      refine g_iretI rfl dX0_lackingFrom_49 ?_
      rw [lkF] at he
      exact Fw.ret he
    | succ f ih =>
      intro k hk he i hi
      subst hi
      have htk := ht k (by omega) (by omega)
      have hct : R32 (ctF (σ (o + 1)) (σ 4 k + b)) := by
        unfold ctF
        split
        · have a1 := hf (σ 4 k + b) (by omega) (by omega)
          have a2 := hf (σ 4 k + b + 1) (by omega) (by omega)
          omega
        · omega
      rw [lkF] at he
      refine g_iload4 dX0_lackingFrom_3 ?_
      refine g_aload1 dX0_lackingFrom_5 ?_
      refine f_geti (J := 9) rfl (by decide) rfl rfl fl_X0_85 dX0_lackingFrom_6 ?_
      rw [hn]
      refine g_icmp_ge ⟨by omega, by omega⟩ ⟨by omega, by omega⟩ (tgt := 48) dX0_lackingFrom_9 rfl (fun h9 => absurd h9 (by omega)) (fun h9 => ?_)
      refine g_aload1 dX0_lackingFrom_12 ?_
      refine g_iload4 dX0_lackingFrom_13 ?_
      refine f_cV1w (isRest_ok isSt1 ⟨by omega, by omega⟩ ⟨by show -2147483648 ≤ σ 4 k; omega, by show σ 4 k ≤ 2147483647; omega⟩) rfl (by decide) rfl oY_X3_isRest oI_X3_isRest lk_X0_90 rfl dX0_lackingFrom_15 rfl (Or.inl rfl) ?_
      refine g_ifneB (tgt := 42) dX0_lackingFrom_18 rfl (fun h18 => ?_) (fun h18 => ?_)
      · refine g_iinc4 dX0_lackingFrom_42 rfl (by decide) ?_
        refine g_goto (tgt := 3) dX0_lackingFrom_45 rfl ?_
        rw [if_neg (by first | simp [lkQ, (show σ 4 k = -1 from h18)] | simp [lkQ, h36])] at he
        exact ih (k + 1) (by omega) he _ (by push_cast; omega)
      · refine g_aload0 dX0_lackingFrom_21 ?_
        refine g_aload1 dX0_lackingFrom_22 ?_
        refine f_getr (r := 4) rfl (by decide) rfl rfl fl_X0_93 dX0_lackingFrom_23 ?_
        refine g_iload4 dX0_lackingFrom_26 ?_
        refine f_cS2w (atI rfl (by decide) (by omega) (by show (k : Int) < (40 : Nat); omega)) oY_X5_at oT_X5_at lk_X0_58 rfl dX0_lackingFrom_28 rfl (Or.inl rfl) ?_
        refine g_iload3 dX0_lackingFrom_31 ?_
        refine g_iadd dX0_lackingFrom_32 ?_
        refine f_cV1w (countOf_ok hs ⟨by omega, by omega⟩) hs.1 (hs.lt 0 (by decide)) rfl oY_X0_countOf oI_X0_countOf lk_X0_96 rfl dX0_lackingFrom_33 rfl (Or.inl rfl) ?_
        refine g_if_ne hct (tgt := 42) dX0_lackingFrom_36 rfl (fun h36 => ?_) (fun h36 => ?_)
        · refine g_iinc4 dX0_lackingFrom_42 rfl (by decide) ?_
          refine g_goto (tgt := 3) dX0_lackingFrom_45 rfl ?_
          rw [if_neg (by first | simp [lkQ, (show σ 4 k = -1 from h18)] | simp [lkQ, h36])] at he
          exact ih (k + 1) (by omega) he _ (by push_cast; omega)
        · refine g_iload4 dX0_lackingFrom_39 ?_
          refine g_iretI rfl dX0_lackingFrom_41 ?_
          rw [if_pos (by simp [lkQ, h36]; exact h18)] at he
          exact Fw.ret he
  refine g_iload2 dX0_lackingFrom_0 ?_
  refine g_istore4 dX0_lackingFrom_1 rfl (by decide) ?_
  exact loop (n - pl) pl (by omega) rfl _ rfl
/-- some limits up to these are among those of m -/
def posC (m h : Nat) : Nat → Nat → Bool
  | 0, _ => false
  | f + 1, c => m.testBit (h * 4 + c) || posC m h f (c + 1)
def posB (m cr : Nat) : Nat → Nat → Bool
  | 0, _ => false
  | f + 1, h => posC m h (cr + 1) 0 || posB m cr f (h + 1)
theorem and_bit (m j : Nat) : (m &&& 2 ^ j = 0) ↔ m.testBit j = false := by
  constructor
  · intro h
    have h2 : (m &&& 2 ^ j).testBit j = false := by rw [h]; exact Nat.zero_testBit j
    rw [Nat.testBit_and, Nat.testBit_two_pow_self, Bool.and_true] at h2
    exact h2
  · intro h
    refine Nat.eq_of_testBit_eq fun i => ?_
    rw [Nat.testBit_and, Nat.zero_testBit]
    by_cases e : j = i
    · subst e; rw [h]; rfl
    · rw [Nat.testBit_two_pow_of_ne e, Bool.and_false]
theorem isPossible_ok {o m hv cr : Nat} {t : Int} (hs : isCh o) (ht : 0 ≤ t ∧ t < 25) (hm : σ (o + 4) t = (m : Int)) (hm7 : m < 65536) (hv2 : hv ≤ 2) (cr3 : cr ≤ 3) : Fw g zX0_isPossible [.ref o, iv t, iv (hv : Int), iv (cr : Int)] σ l (bv (posB m cr (hv + 1) 0 = true)) := by
  refine Fn.of [some (.ref o), some (iv t), some (iv (hv : Int)), some (iv (cr : Int)), none, none] rfl (by decide) (Nat.le_of_ble_eq_true rfl) rfl ?_
  have outer : ∀ f h : Nat, h + f = hv + 1 → (posB m cr f h = posB m cr (hv + 1) 0) → ∀ i : Int, i = (h : Int) → FW g zX0_isPossible 0 0 (fun q σ' l' => q = .inl (some (bv (posB m cr (hv + 1) 0 = true))) ∧ σ' = σ ∧ l' = l) 3 [some (.ref o), some (iv t), some (iv (hv : Int)), some (iv (cr : Int)), some (iv i), none] [] σ l := by
    intro f
    induction f with
    | zero =>
      intro h hh he i hi
      subst hi
      rw [posB] at he
      refine g_iload4 dX0_isPossible_3 ?_
      refine g_iload2 dX0_isPossible_5 ?_
      refine g_icmp_gt ⟨by omega, by omega⟩ ⟨by omega, by omega⟩ (tgt := 51) dX0_isPossible_6 rfl (fun h6 => ?_) (fun h6 => absurd h6 (by omega))
      refine g_iconst dX0_isPossible_51 ?_
      refine g_iretB (Or.inl rfl) rfl dX0_isPossible_52 ?_
      exact Fw.ret0 (by rw [← he]; decide)
    | succ f ih =>
      intro h hh he i hi
      subst hi
      rw [posB] at he
      refine g_iload4 dX0_isPossible_3 ?_
      refine g_iload2 dX0_isPossible_5 ?_
      refine g_icmp_gt ⟨by omega, by omega⟩ ⟨by omega, by omega⟩ (tgt := 51) dX0_isPossible_6 rfl (fun h6 => absurd h6 (by omega)) (fun h6 => ?_)
      refine g_iconst dX0_isPossible_9 ?_
      refine g_istore5 dX0_isPossible_10 rfl (by decide) ?_
      have inner : ∀ f2 c : Nat, c + f2 = cr + 1 → (posC m h f2 c || posB m cr f (h + 1)) = posB m cr (hv + 1) 0 → ∀ j : Int, j = (c : Int) → FW g zX0_isPossible 0 0 (fun q σ' l' => q = .inl (some (bv (posB m cr (hv + 1) 0 = true))) ∧ σ' = σ ∧ l' = l) 12 [some (.ref o), some (iv t), some (iv (hv : Int)), some (iv (cr : Int)), some (iv (h : Int)), some (iv j)] [] σ l := by
        intro f2
        induction f2 with
        | zero =>
          intro c hc he2 j hj
          subst hj
          rw [posC, Bool.false_or] at he2
          refine g_iload5 dX0_isPossible_12 ?_
          refine g_iload3 dX0_isPossible_14 ?_
          refine g_icmp_gt ⟨by omega, by omega⟩ ⟨by omega, by omega⟩ (tgt := 45) dX0_isPossible_15 rfl (fun h15 => ?_) (fun h15 => absurd h15 (by omega))
          refine g_iinc4 dX0_isPossible_45 rfl (by decide) ?_
          refine g_goto (tgt := 3) dX0_isPossible_48 rfl ?_
          refine g_forget 5 ?_
          exact ih (h + 1) (by omega) he2 _ (by push_cast; omega)
        | succ f2 ih2 =>
          intro c hc he2 j hj
          subst hj
          rw [posC] at he2
          refine g_iload5 dX0_isPossible_12 ?_
          refine g_iload3 dX0_isPossible_14 ?_
          refine g_icmp_gt ⟨by omega, by omega⟩ ⟨by omega, by omega⟩ (tgt := 45) dX0_isPossible_15 rfl (fun h15 => absurd h15 (by omega)) (fun h15 => ?_)
          refine g_aload0 dX0_isPossible_18 ?_
          refine f_getr (r := o + 4) hs.1 (hs.lt 0 (by decide)) rfl rfl fl_X0_21 dX0_isPossible_19 ?_
          refine g_iload1 dX0_isPossible_22 ?_
          refine f_cS2w (atI hs.k4 (hs.lt 4 (by decide)) (by omega) (by rw [hs.n4]; omega)) oY_X5_at oT_X5_at lk_X0_58 rfl dX0_isPossible_23 rfl (Or.inl rfl) ?_
          rw [hm]
          refine g_iload4 dX0_isPossible_26 ?_
          refine g_iload5 dX0_isPossible_28 ?_
          refine f_cS2w (limitBit_ok (by omega) (by omega)) oY_X0_limitBit oT_X0_limitBit lk_X0_75 rfl dX0_isPossible_30 rfl (Or.inl rfl) ?_
          refine g_iand dX0_isPossible_33 ?_
          refine g_if_eq ⟨by omega, by have := Nat.and_le_left (n := m) (m := 2 ^ (h * 4 + c)); omega⟩ (tgt := 39) dX0_isPossible_34 rfl (fun h34 => ?_) (fun h34 => ?_)
          · refine g_iinc5 dX0_isPossible_39 rfl (by decide) ?_
            refine g_goto (tgt := 12) dX0_isPossible_42 rfl ?_
            have hb : m.testBit (h * 4 + c) = false := (and_bit _ _).mp (by omega)
            rw [hb, Bool.false_or] at he2
            exact ih2 (c + 1) (by omega) he2 _ (by push_cast; omega)
          · refine g_iconst dX0_isPossible_37 ?_
            refine g_iretB (Or.inr rfl) rfl dX0_isPossible_38 ?_
            have hb : m.testBit (h * 4 + c) = true := by
              have h7 : ¬ (m &&& 2 ^ (h * 4 + c) = 0) := fun e9 => h34 (by rw [e9]; rfl)
              rw [and_bit] at h7
              simpa using h7
            exact Fw.ret1 (by rw [← he2, hb]; rfl)
      exact inner (cr + 1) 0 (by omega) he _ rfl
  refine g_iconst dX0_isPossible_0 ?_
  refine g_istore4 dX0_isPossible_1 rfl (by decide) ?_
  exact outer (hv + 1) 0 (by omega) rfl _ rfl
end C30
