/-! The class: its row helpers. -/
section C20
def atF (σ : sT) (l : Nat → Nat) (n : Nat) (i : Int) : Int := if 0 ≤ i ∧ i < (ln l n : Int) then σ n i else 0
def putF (σ : sT) (l : Nat → Nat) (n : Nat) (i v : Int) : sT := if 0 ≤ i ∧ i < (ln l n : Int) then up σ n i v else σ
theorem atF_in {σ : sT} {l : Nat → Nat} {n : Nat} {i : Int} (h0 : 0 ≤ i) (h1 : i < (ln l n : Int)) : atF σ l n i = σ n i := if_pos ⟨h0, h1⟩
theorem putF_in {σ : sT} {l : Nat → Nat} {n : Nat} {i v : Int} (h0 : 0 ≤ i) (h1 : i < (ln l n : Int)) : putF σ l n i v = up σ n i v := if_pos ⟨h0, h1⟩
def pw (i : Int) : Int := if 0 ≤ i ∧ i < 8 then ((3 ^ i.toNat : Nat) : Int) else 0
variable {g : gT} {σ : sT} {l : Nat → Nat}
theorem at_ok {n : Nat} {i : Int} (hk : kd n = 0) (ho : n < 110) (hi : R32 i) : Fw g zX5_at [.ref n, iv i] σ l (iv (atF σ l n i)) := by
  refine Fn.of [some (.ref n), some (iv i)] rfl (by decide) (Nat.le_of_ble_eq_true rfl) rfl ?_
  have hln := ln_le l n
  refine g_iload1 dX5_at_0 ?_
  refine g_if_lt ⟨by omega, by omega⟩ (tgt := 16) dX5_at_1 rfl (fun h1 => ?_) (fun h1 => ?_)
  · refine g_iconst dX5_at_16 ?_
    refine g_iretI rfl dX5_at_17 ?_
    exact Fw.ret (by unfold atF; first | rw [if_pos (by omega)] | rw [if_neg (by omega)])
  · refine g_iload1 dX5_at_4 ?_
    refine g_aload0 dX5_at_5 ?_
    refine f_alen (by omega) ho dX5_at_6 ?_
    refine g_icmp_ge ⟨by omega, by omega⟩ ⟨by omega, by omega⟩ (tgt := 16) dX5_at_7 rfl (fun h7 => ?_) (fun h7 => ?_)
    · refine g_iconst dX5_at_16 ?_
      refine g_iretI rfl dX5_at_17 ?_
      exact Fw.ret (by unfold atF; first | rw [if_pos (by omega)] | rw [if_neg (by omega)])
    · refine g_aload0 dX5_at_10 ?_
      refine g_iload1 dX5_at_11 ?_
      refine f_iald hk ho ⟨by omega, by omega⟩ dX5_at_12 ?_
      refine g_goto (tgt := 17) dX5_at_13 rfl ?_
      refine g_iretI rfl dX5_at_17 ?_
      exact Fw.ret (by unfold atF; first | rw [if_pos (by omega)] | rw [if_neg (by omega)])

theorem atP_ok {i : Int} (hi : R32 i) : Fw g zX5_at [.ref KB, iv i] σ l (iv (pw i)) := by
  refine Fn.of [some (.ref KB), some (iv i)] rfl (by decide) (Nat.le_of_ble_eq_true rfl) rfl ?_
  refine g_iload1 dX5_at_0 ?_
  refine g_if_lt ⟨by omega, by omega⟩ (tgt := 16) dX5_at_1 rfl (fun h1 => ?_) (fun h1 => ?_)
  · refine g_iconst dX5_at_16 ?_
    refine g_iretI rfl dX5_at_17 ?_
    exact Fw.ret (by unfold pw; first | rw [if_pos (by omega)] | rw [if_neg (by omega)])
  · refine g_iload1 dX5_at_4 ?_
    refine g_aload0 dX5_at_5 ?_
    refine g_alenP dX5_at_6 ?_
    refine g_icmp_ge ⟨by omega, by omega⟩ ⟨by omega, by omega⟩ (tgt := 16) dX5_at_7 rfl (fun h7 => ?_) (fun h7 => ?_)
    · refine g_iconst dX5_at_16 ?_
      refine g_iretI rfl dX5_at_17 ?_
      exact Fw.ret (by unfold pw; first | rw [if_pos (by omega)] | rw [if_neg (by omega)])
    · refine g_aload0 dX5_at_10 ?_
      refine g_iload1 dX5_at_11 ?_
      refine g_ialdP ⟨by omega, by omega⟩ dX5_at_12 ?_
      refine g_goto (tgt := 17) dX5_at_13 rfl ?_
      refine g_iretI rfl dX5_at_17 ?_
      exact Fw.ret (by unfold pw; first | rw [if_pos (by omega)] | rw [if_neg (by omega)])

theorem put_ok {n : Nat} {i v : Int} (hk : kd n = 0) (ho : n < 110) (hi : R32 i) : FO g zX5_put [.ref n, iv i, iv v] σ l (putF σ l n i v) := by
  refine Fn.of [some (.ref n), some (iv i), some (iv v)] rfl (by decide) (Nat.le_of_ble_eq_true rfl) rfl ?_
  have hln := ln_le l n
  refine g_iload1 dX5_put_0 ?_
  refine g_if_lt ⟨by omega, by omega⟩ (tgt := 14) dX5_put_1 rfl (fun h1 => ?_) (fun h1 => ?_)
  · refine g_return rfl dX5_put_14 ?_
    exact FO.ret (by unfold putF; first | rw [if_pos (by omega)] | rw [if_neg (by omega)])
  · refine g_iload1 dX5_put_4 ?_
    refine g_aload0 dX5_put_5 ?_
    refine f_alen (by omega) ho dX5_put_6 ?_
    refine g_icmp_ge ⟨by omega, by omega⟩ ⟨by omega, by omega⟩ (tgt := 14) dX5_put_7 rfl (fun h7 => ?_) (fun h7 => ?_)
    · refine g_return rfl dX5_put_14 ?_
      exact FO.ret (by unfold putF; first | rw [if_pos (by omega)] | rw [if_neg (by omega)])
    · refine g_aload0 dX5_put_10 ?_
      refine g_iload1 dX5_put_11 ?_
      refine g_iload2 dX5_put_12 ?_
      refine f_iast hk ho ⟨by omega, by omega⟩ dX5_put_13 ?_
      refine g_return rfl dX5_put_14 ?_
      exact FO.ret (by unfold putF; first | rw [if_pos (by omega)] | rw [if_neg (by omega)])

/-- at, in range; put, in range -/
theorem atI {n : Nat} {i : Int} (hk : kd n = 0) (ho : n < 110) (h0 : 0 ≤ i) (h1 : i < (ln l n : Int)) : Fw g zX5_at [.ref n, iv i] σ l (iv (σ n i)) := by
  have hln := ln_le l n
  rw [← atF_in (σ := σ) h0 h1]
  exact at_ok hk ho ⟨by omega, by omega⟩
theorem putI {n : Nat} {i v : Int} (hk : kd n = 0) (ho : n < 110) (h0 : 0 ≤ i) (h1 : i < (ln l n : Int)) : FO g zX5_put [.ref n, iv i, iv v] σ l (up σ n i v) := by
  have hln := ln_le l n
  rw [← putF_in (σ := σ) h0 h1]
  exact put_ok hk ho ⟨by omega, by omega⟩
theorem pwI {i : Int} (h0 : 0 ≤ i) (h1 : i < 8) : Fw g zX5_at [.ref KB, iv i] σ l (iv (pw i)) := atP_ok ⟨by omega, by omega⟩
def quoF (a b : Int) : Int := if 0 < b then a / b else 0
theorem quotient_ok {a b : Int} (ha : 0 ≤ a ∧ a ≤ 2147483647) (hb : R32 b) : Fw g zX5_quotient [iv a, iv b] σ l (iv (quoF a b)) := by
  refine Fn.of [some (iv a), some (iv b)] rfl (by decide) (Nat.le_of_ble_eq_true rfl) rfl ?_
  refine g_iload1 dX5_quotient_0 ?_
  refine g_if_le ⟨by omega, by omega⟩ (tgt := 10) dX5_quotient_1 rfl (fun h1 => ?_) (fun h1 => ?_)
  · refine g_iconst dX5_quotient_10 ?_
    refine g_iretI rfl dX5_quotient_11 ?_
    exact Fw.ret (by unfold quoF; first | rw [if_pos (by omega)] | rw [if_neg (by omega)])
  · refine g_iload0 dX5_quotient_4 ?_
    refine g_iload1 dX5_quotient_5 ?_
    refine g_idiv ha ⟨by omega, by omega⟩ dX5_quotient_6 ?_
    refine g_goto (tgt := 11) dX5_quotient_7 rfl ?_
    refine g_iretI rfl dX5_quotient_11 ?_
    exact Fw.ret (by unfold quoF; first | rw [if_pos (by omega)] | rw [if_neg (by omega)])

end C20
