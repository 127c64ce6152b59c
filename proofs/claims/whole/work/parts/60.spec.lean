/-! What a description says; the reader's smallest steps -/
section C60
variable {g : gT} {σ : sT} {l : Nat → Nat}
def sgn (T : Int → Int) (N p : Nat) : Int := if p < N then T p else -1
def isSp (c : Int) : Bool := decide (c = 32)
def isLt (c : Int) : Bool := decide (97 ≤ c ∧ c ≤ 122)
def isDg (c : Int) : Bool := decide (48 ≤ c ∧ c ≤ 57)
def skF (Q : Int → Bool) (T : Int → Int) : Nat → Nat → Nat
  | 0, p => p
  | f + 1, p => if Q (T p) = true then skF Q T f (p + 1) else p
/-- behind the bytes of a kind -/
def sk (Q : Int → Bool) (T : Int → Int) (N p : Nat) : Nat := skF Q T (N - p) p
theorem sk_s {Q : Int → Bool} {T : Int → Int} {N p : Nat} (h : p < N) (hq : Q (T p) = true) : sk Q T N p = sk Q T N (p + 1) := by
  unfold sk
  rw [show N - p = N - (p + 1) + 1 from by omega, skF, if_pos hq]
theorem sk_e {Q : Int → Bool} {T : Int → Int} {N p : Nat} (h : ¬ (p < N ∧ Q (T p) = true)) : sk Q T N p = p := by
  unfold sk
  rcases hN : N - p with _ | f
  · rfl
  · rw [skF, if_neg (fun z => h ⟨by omega, z⟩)]
theorem skF_le (Q : Int → Bool) (T : Int → Int) : ∀ f p, p ≤ skF Q T f p ∧ skF Q T f p ≤ p + f := by
  intro f
  induction f with
  | zero => intro p; exact ⟨Nat.le_refl _, Nat.le_refl _⟩
  | succ f ih =>
    intro p
    unfold skF
    split
    · have := ih (p + 1); omega
    · omega
theorem sk_le {Q : Int → Bool} {T : Int → Int} {N p : Nat} (h : p ≤ N) : p ≤ sk Q T N p ∧ sk Q T N p ≤ N := by
  have := skF_le Q T (N - p) p
  unfold sk
  omega
/-- at its end there is no byte of the kind -/
theorem sk_end {Q : Int → Bool} {T : Int → Int} {N : Nat} : ∀ d p, N - p = d → ¬ (sk Q T N p < N ∧ Q (T (sk Q T N p)) = true) := by
  intro d
  induction d with
  | zero =>
    intro p hp
    rw [sk_e (by omega)]
    omega
  | succ d ih =>
    intro p hp
    by_cases h : p < N ∧ Q (T p) = true
    · rw [sk_s h.1 h.2]; exact ih (p + 1) (by omega)
    · rw [sk_e h]; exact h
def nuF (T : Int → Int) : Nat → Nat → Int → Int
  | 0, _, v => v
  | f + 1, p, v => if isDg (T p) = true then nuF T f (p + 1) (min (10 * v + T p - 48) 1000000) else v
/-- the number that the digits from p on tell, begun with v -/
def nuV (T : Int → Int) (N p : Nat) (v : Int) : Int := nuF T (N - p) p v
theorem nu_s {T : Int → Int} {N p : Nat} {v : Int} (h : p < N) (hq : isDg (T p) = true) : nuV T N p v = nuV T N (p + 1) (min (10 * v + T p - 48) 1000000) := by
  unfold nuV
  rw [show N - p = N - (p + 1) + 1 from by omega, nuF, if_pos hq]
theorem nu_e {T : Int → Int} {N p : Nat} {v : Int} (h : ¬ (p < N ∧ isDg (T p) = true)) : nuV T N p v = v := by
  unfold nuV
  rcases hN : N - p with _ | f
  · rfl
  · rw [nuF, if_neg (fun z => h ⟨by omega, z⟩)]
theorem nuF_rng {T : Int → Int} : ∀ f p v, 0 ≤ v → v ≤ 1000000 → 0 ≤ nuF T f p v ∧ nuF T f p v ≤ 1000000 := by
  intro f
  induction f with
  | zero => intro p v h0 h1; exact ⟨h0, h1⟩
  | succ f ih =>
    intro p v h0 h1
    unfold nuF
    split
    · next h =>
      have h2 : 48 ≤ T p ∧ T p ≤ 57 := of_decide_eq_true h
      exact ih (p + 1) _ (by omega) (by omega)
    · exact ⟨h0, h1⟩
/-- a number between two -/
def rNum (T : Int → Int) (N : Nat) (lo hi : Int) (p : Nat) : Sum (Int × Nat) (Int × Nat) :=
  if isDg (sgn T N (sk isSp T N p)) = true then
    (if lo ≤ nuV T N (sk isSp T N p) 0 ∧ nuV T N (sk isSp T N p) 0 ≤ hi then .inr (nuV T N (sk isSp T N p) 0, sk isDg T N (sk isSp T N p)) else .inl (2, sk isSp T N p))
  else .inl (1, sk isSp T N p)
theorem rNum_r {T : Int → Int} {N p e : Nat} {lo hi v : Int} (h : rNum T N lo hi p = .inr (v, e)) : lo ≤ v ∧ v ≤ hi ∧ isDg (sgn T N (sk isSp T N p)) = true ∧ v = nuV T N (sk isSp T N p) 0 ∧ e = sk isDg T N (sk isSp T N p) := by
  unfold rNum at h
  split at h
  · next h1 =>
    split at h
    · next h2 => cases h; exact ⟨h2.1, h2.2, h1, rfl, rfl⟩
    · cases h
  · cases h
/-- a word that is some one -/
def isW (T : Int → Int) (q e i : Nat) : Prop := e - q = wdN i ∧ ∀ k : Nat, k < wdN i → T ((q + k : Nat) : Int) = wd i k
def TX (T : Int → Int) (N : Nat) : Prop := N ≤ 400 ∧ ∀ j : Nat, j < N → 1 ≤ T j ∧ T j ≤ 255
theorem sgn_rng {T : Int → Int} {N p : Nat} (h : TX T N) : -1 ≤ sgn T N p ∧ sgn T N p ≤ 255 := by
  unfold sgn
  split
  · next hp => have := h.2 p hp; omega
  · omega
theorem sgn_at {T : Int → Int} {N p : Nat} (h : p < N) : sgn T N p = T p := if_pos h
/-- what the smallest steps leave -/
def N9 (σ τ : sT) : Prop := (∀ a, a ≠ 9 → τ a = σ a) ∧ ∀ j, j ≠ 2 → j ≠ 3 → j ≠ 6 → j ≠ 7 → j ≠ 8 → τ 9 j = σ 9 j
theorem N9.refl (σ : sT) : N9 σ σ := ⟨fun _ _ => rfl, fun _ _ _ _ _ _ => rfl⟩
theorem N9.trans {σ τ ρ : sT} (h : N9 σ τ) (h2 : N9 τ ρ) : N9 σ ρ := ⟨fun a ha => (h2.1 a ha).trans (h.1 a ha), fun j a b c d e => (h2.2 j a b c d e).trans (h.2 j a b c d e)⟩
theorem N9.up {σ τ : sT} {j v : Int} (h : N9 σ τ) (hj : j = 2 ∨ j = 3 ∨ j = 6 ∨ j = 7 ∨ j = 8) : N9 σ (up τ 9 j v) := ⟨fun a ha => by rw [up_n ha]; exact h.1 a ha, fun i a b c d e => by rw [up_ne (fun z => by omega)]; exact h.2 i a b c d e⟩
theorem up_up {σ : sT} {n : Nat} {j v w : Int} : up (up σ n j v) n j w = up σ n j w := by
  funext a b
  unfold up
  by_cases c : a = n ∧ b = j
  · rw [if_pos c, if_pos c]
  · rw [if_neg c, if_neg c, if_neg c]
theorem up_id {σ : sT} {n : Nat} {j v : Int} (h : σ n j = v) : up σ n j v = σ := by
  funext a b
  unfold up
  by_cases c : a = n ∧ b = j
  · rw [if_pos c, c.1, c.2, h]
  · rw [if_neg c]
theorem isDigit_ok {c : Int} (hx : R32 c) : Fw g zX2_isDigit [iv c] σ l (bv (isDg c = true)) := by
  refine Fn.of [some (iv c)] rfl (by decide) (Nat.le_of_ble_eq_true rfl) rfl ?_
  refine g_iload0 dX2_isDigit_0 ?_
  refine g_bipush dX2_isDigit_1 (by decide) ?_
  refine g_icmp_lt hx ⟨by decide, by decide⟩ (tgt := 16) dX2_isDigit_3 rfl (fun h3 => ?_) (fun h3 => ?_)
  · refine g_iconst dX2_isDigit_16 ?_
    refine g_iretB (Or.inl rfl) rfl dX2_isDigit_17 ?_
    first
      | exact Fw.ret (by rw [if_pos (by unfold isDg; exact decide_eq_true ⟨by omega, by omega⟩)])
      | exact Fw.ret (by rw [if_neg (by unfold isDg; rw [decide_eq_true_eq]; omega)])
  · refine g_iload0 dX2_isDigit_6 ?_
    refine g_bipush dX2_isDigit_7 (by decide) ?_
    refine g_icmp_gt hx ⟨by decide, by decide⟩ (tgt := 16) dX2_isDigit_9 rfl (fun h9 => ?_) (fun h9 => ?_)
    · refine g_iconst dX2_isDigit_16 ?_
      refine g_iretB (Or.inl rfl) rfl dX2_isDigit_17 ?_
      first
        | exact Fw.ret (by rw [if_pos (by unfold isDg; exact decide_eq_true ⟨by omega, by omega⟩)])
        | exact Fw.ret (by rw [if_neg (by unfold isDg; rw [decide_eq_true_eq]; omega)])
    · refine g_iconst dX2_isDigit_12 ?_
      refine g_goto (tgt := 17) dX2_isDigit_13 rfl ?_
      refine g_iretB (Or.inr rfl) rfl dX2_isDigit_17 ?_
      first
        | exact Fw.ret (by rw [if_pos (by unfold isDg; exact decide_eq_true ⟨by omega, by omega⟩)])
        | exact Fw.ret (by rw [if_neg (by unfold isDg; rw [decide_eq_true_eq]; omega)])
theorem isLetter_ok {c : Int} (hx : R32 c) : Fw g zX2_isLetter [iv c] σ l (bv (isLt c = true)) := by
  refine Fn.of [some (iv c)] rfl (by decide) (Nat.le_of_ble_eq_true rfl) rfl ?_
  refine g_iload0 dX2_isLetter_0 ?_
  refine g_bipush dX2_isLetter_1 (by decide) ?_
  refine g_icmp_lt hx ⟨by decide, by decide⟩ (tgt := 16) dX2_isLetter_3 rfl (fun h3 => ?_) (fun h3 => ?_)
  · refine g_iconst dX2_isLetter_16 ?_
    refine g_iretB (Or.inl rfl) rfl dX2_isLetter_17 ?_
    first
      | exact Fw.ret (by rw [if_pos (by unfold isLt; exact decide_eq_true ⟨by omega, by omega⟩)])
      | exact Fw.ret (by rw [if_neg (by unfold isLt; rw [decide_eq_true_eq]; omega)])
  · refine g_iload0 dX2_isLetter_6 ?_
    refine g_bipush dX2_isLetter_7 (by decide) ?_
    refine g_icmp_gt hx ⟨by decide, by decide⟩ (tgt := 16) dX2_isLetter_9 rfl (fun h9 => ?_) (fun h9 => ?_)
    · refine g_iconst dX2_isLetter_16 ?_
      refine g_iretB (Or.inl rfl) rfl dX2_isLetter_17 ?_
      first
        | exact Fw.ret (by rw [if_pos (by unfold isLt; exact decide_eq_true ⟨by omega, by omega⟩)])
        | exact Fw.ret (by rw [if_neg (by unfold isLt; rw [decide_eq_true_eq]; omega)])
    · refine g_iconst dX2_isLetter_12 ?_
      refine g_goto (tgt := 17) dX2_isLetter_13 rfl ?_
      refine g_iretB (Or.inr rfl) rfl dX2_isLetter_17 ?_
      first
        | exact Fw.ret (by rw [if_pos (by unfold isLt; exact decide_eq_true ⟨by omega, by omega⟩)])
        | exact Fw.ret (by rw [if_neg (by unfold isLt; rw [decide_eq_true_eq]; omega)])
theorem sign_ok {T : Int → Int} {N p : Nat} (hT : TX T N) (h1 : σ 9 1 = (N : Int)) (h10 : σ 10 = T) (h6 : σ 9 6 = (p : Int)) (hp : p ≤ N) : Fw g zX2_sign [.ref 9] σ l (iv (sgn T N p)) := by
  have hN := hT.1
  refine Fn.of [some (.ref 9)] rfl (by decide) (Nat.le_of_ble_eq_true rfl) rfl ?_
  refine g_aload0 dX2_sign_0 ?_
  refine f_geti (J := 6) rfl (by decide) rfl rfl fl_X2_35 dX2_sign_1 ?_
  rw [h6]
  refine g_if_lt ⟨by omega, by omega⟩ (tgt := 42) dX2_sign_4 rfl (fun h4 => absurd h4 (by omega)) (fun h4 => ?_)
  refine g_aload0 dX2_sign_7 ?_
  refine f_geti (J := 6) rfl (by decide) rfl rfl fl_X2_35 dX2_sign_8 ?_
  rw [h6]
  refine g_aload0 dX2_sign_11 ?_
  refine f_geti (J := 1) rfl (by decide) rfl rfl fl_X2_15 dX2_sign_12 ?_
  rw [h1]
  refine g_icmp_ge ⟨by omega, by omega⟩ ⟨by omega, by omega⟩ (tgt := 42) dX2_sign_15 rfl (fun h15 => ?_) (fun h15 => ?_)
  · refine g_iconst dX2_sign_42 ?_
    refine g_iretI rfl dX2_sign_43 ?_
    first
      | exact Fw.ret (by rw [sgn_at (by omega)])
      | exact Fw.ret (by unfold sgn; rw [if_neg (by omega)])
  · refine g_aload0 dX2_sign_18 ?_
    refine f_geti (J := 6) rfl (by decide) rfl rfl fl_X2_35 dX2_sign_19 ?_
    rw [h6]
    refine g_aload0 dX2_sign_22 ?_
    refine f_getr (r := 10) rfl (by decide) rfl rfl fl_X2_9 dX2_sign_23 ?_
    refine f_alen (by decide) (by decide) dX2_sign_26 ?_
    rw [show (ln l 10 : Nat) = 400 from rfl]
    refine g_icmp_ge ⟨by omega, by omega⟩ ⟨by omega, by omega⟩ (tgt := 42) dX2_sign_27 rfl (fun h27 => absurd h27 (by omega)) (fun h27 => ?_)
    refine g_aload0 dX2_sign_30 ?_
    refine f_getr (r := 10) rfl (by decide) rfl rfl fl_X2_9 dX2_sign_31 ?_
    refine g_aload0 dX2_sign_34 ?_
    refine f_geti (J := 6) rfl (by decide) rfl rfl fl_X2_35 dX2_sign_35 ?_
    rw [h6]
    refine f_iald rfl (by decide) ⟨by omega, by show (p : Int) < ((400 : Nat) : Int); omega⟩ dX2_sign_38 ?_
    rw [h10]
    refine g_goto (tgt := 43) dX2_sign_39 rfl ?_
    refine g_iretI rfl dX2_sign_43 ?_
    first
      | exact Fw.ret (by rw [sgn_at (by omega)])
      | exact Fw.ret (by unfold sgn; rw [if_neg (by omega)])
theorem fail_ok {k pl : Int} : FX g zX2_fail [.ref 9, iv k, iv pl] σ l (iv 0) (up (up σ 9 2 k) 9 3 pl) := by
  refine Fn.of [some (.ref 9), some (iv k), some (iv pl)] rfl (by decide) (Nat.le_of_ble_eq_true rfl) rfl ?_
  refine g_aload0 dX2_fail_0 ?_
  refine g_iload1 dX2_fail_1 ?_
  refine f_puti (J := 2) rfl (by decide) rfl rfl fl_X2_19 rfl (fun _ _ _ h => by cases h; rfl) dX2_fail_2 ?_
  refine g_aload0 dX2_fail_5 ?_
  refine g_iload2 dX2_fail_6 ?_
  refine f_puti (J := 3) rfl (by decide) rfl rfl fl_X2_22 rfl (fun _ _ _ h => by cases h; rfl) dX2_fail_7 ?_
  refine g_iconst dX2_fail_10 ?_
  refine g_iretB (Or.inl rfl) rfl dX2_fail_11 ?_
  exact fn_ret ⟨rfl, rfl, rfl⟩
theorem skipSpaces_ok {T : Int → Int} {N p : Nat} (hT : TX T N) (h1 : σ 9 1 = (N : Int)) (h10 : σ 10 = T) (h6 : σ 9 6 = (p : Int)) (hp : p ≤ N) : FO g zX2_skipSpaces [.ref 9] σ l (up σ 9 6 (sk isSp T N p : Int)) := by
  have hN := hT.1
  refine Fn.of [some (.ref 9), none] rfl (by decide) (Nat.le_of_ble_eq_true rfl) rfl ?_
  have loop : ∀ d q : Nat, N - q = d → q ≤ N → sk isSp T N q = sk isSp T N p → FW g zX2_skipSpaces 0 0 (fun o σ' l' => o = .inl none ∧ σ' = up σ 9 6 (sk isSp T N p : Int) ∧ l' = l) 13 [some (.ref 9), some (iv (N : Int))] [] (up σ 9 6 (q : Int)) l := by
    intro d
    induction d with
    | zero =>
      intro q hd hq he
      refine g_aload0 dX2_skipSpaces_13 ?_
      refine f_geti (J := 6) rfl (by decide) rfl rfl fl_X2_35 dX2_skipSpaces_14 ?_
      rw [up_eq]
      refine g_if_lt ⟨by omega, by omega⟩ (tgt := 55) dX2_skipSpaces_17 rfl (fun h17 => absurd h17 (by omega)) (fun h17 => ?_)
      refine g_aload0 dX2_skipSpaces_20 ?_
      refine f_geti (J := 6) rfl (by decide) rfl rfl fl_X2_35 dX2_skipSpaces_21 ?_
      rw [up_eq]
      refine g_iload1 dX2_skipSpaces_24 ?_
      refine g_icmp_ge ⟨by omega, by omega⟩ ⟨by omega, by omega⟩ (tgt := 55) dX2_skipSpaces_25 rfl (fun h25 => ?_) (fun h25 => absurd h25 (by omega))
      refine g_return rfl dX2_skipSpaces_55 ?_
      exact FO.ret (by rw [← he, sk_e (by omega)])
    | succ d ih =>
      intro q hd hq he
      refine g_aload0 dX2_skipSpaces_13 ?_
      refine f_geti (J := 6) rfl (by decide) rfl rfl fl_X2_35 dX2_skipSpaces_14 ?_
      rw [up_eq]
      refine g_if_lt ⟨by omega, by omega⟩ (tgt := 55) dX2_skipSpaces_17 rfl (fun h17 => absurd h17 (by omega)) (fun h17 => ?_)
      refine g_aload0 dX2_skipSpaces_20 ?_
      refine f_geti (J := 6) rfl (by decide) rfl rfl fl_X2_35 dX2_skipSpaces_21 ?_
      rw [up_eq]
      refine g_iload1 dX2_skipSpaces_24 ?_
      refine g_icmp_ge ⟨by omega, by omega⟩ ⟨by omega, by omega⟩ (tgt := 55) dX2_skipSpaces_25 rfl (fun h25 => ?_) (fun h25 => ?_)
      · refine g_return rfl dX2_skipSpaces_55 ?_
        first
          | exact FO.ret (by rw [← he, sk_e (by omega)])
          | exact FO.ret (by rw [← he, sk_e (fun z => h39 (of_decide_eq_true z.2))])
      · refine g_aload0 dX2_skipSpaces_28 ?_
        refine f_getr (r := 10) rfl (by decide) rfl rfl fl_X2_9 dX2_skipSpaces_29 ?_
        refine g_aload0 dX2_skipSpaces_32 ?_
        refine f_geti (J := 6) rfl (by decide) rfl rfl fl_X2_35 dX2_skipSpaces_33 ?_
        rw [up_eq]
        refine f_iald rfl (by decide) ⟨by omega, by show (q : Int) < ((400 : Nat) : Int); omega⟩ dX2_skipSpaces_36 ?_
        rw [up_n (by decide), h10]
        have hb := hT.2 q (by omega)
        refine g_bipush dX2_skipSpaces_37 (by decide) ?_
        refine g_icmp_ne ⟨by omega, by omega⟩ ⟨by decide, by decide⟩ (tgt := 55) dX2_skipSpaces_39 rfl (fun h39 => ?_) (fun h39 => ?_)
        · refine g_return rfl dX2_skipSpaces_55 ?_
          first
            | exact FO.ret (by rw [← he, sk_e (by omega)])
            | exact FO.ret (by rw [← he, sk_e (fun z => h39 (of_decide_eq_true z.2))])
        · refine g_aload0 dX2_skipSpaces_42 ?_
          refine g_dup rfl dX2_skipSpaces_43 ?_
          refine f_geti (J := 6) rfl (by decide) rfl rfl fl_X2_35 dX2_skipSpaces_44 ?_
          rw [up_eq]
          refine g_iconst dX2_skipSpaces_47 ?_
          refine g_iadd dX2_skipSpaces_48 ?_
          refine f_puti (J := 6) rfl (by decide) rfl rfl fl_X2_35 rfl (fun _ _ _ h => by cases h; rfl) dX2_skipSpaces_49 ?_
          refine g_goto (tgt := 13) dX2_skipSpaces_52 rfl ?_
          rw [up_up]
          exact ih (q + 1) (by omega) (by omega) (by rw [← he, ← sk_s (by omega) (by unfold isSp; exact decide_eq_true h39)])
  refine g_aload0 dX2_skipSpaces_0 ?_
  refine f_geti (J := 1) rfl (by decide) rfl rfl fl_X2_15 dX2_skipSpaces_1 ?_
  rw [h1]
  refine g_aload0 dX2_skipSpaces_4 ?_
  refine f_getr (r := 10) rfl (by decide) rfl rfl fl_X2_9 dX2_skipSpaces_5 ?_
  refine f_alen (by decide) (by decide) dX2_skipSpaces_8 ?_
  rw [show (ln l 10 : Nat) = 400 from rfl]
  refine g_mmin ⟨by omega, by omega⟩ ⟨by omega, by omega⟩ ma_X2_76 ⟨by decide, Nat.le_of_ble_eq_true rfl⟩ dX2_skipSpaces_9 ?_
  rw [show min (N : Int) ((400 : Nat) : Int) = (N : Int) from by omega]
  refine g_istore1 dX2_skipSpaces_12 rfl (by decide) ?_
  have h0 := loop _ p rfl hp rfl
  rw [up_id h6] at h0
  exact h0
theorem isAtEnd_ok {T : Int → Int} {N p : Nat} (hT : TX T N) (h1 : σ 9 1 = (N : Int)) (h10 : σ 10 = T) (h6 : σ 9 6 = (p : Int)) (hp : p ≤ N) : FX g zX2_isAtEnd [.ref 9] σ l (bv (N ≤ sk isSp T N p)) (up σ 9 6 (sk isSp T N p : Int)) := by
  have hN := hT.1
  have hs := sk_le (Q := isSp) (T := T) hp
  refine Fn.of [some (.ref 9)] rfl (by decide) (Nat.le_of_ble_eq_true rfl) rfl ?_
  refine g_aload0 dX2_isAtEnd_0 ?_
  refine f_cV0d (skipSpaces_ok hT h1 h10 h6 hp) rfl (by decide) rfl oY_X2_skipSpaces oI_X2_skipSpaces lk_X2_82 rfl dX2_isAtEnd_1 rfl (Or.inl rfl) ?_
  refine g_aload0 dX2_isAtEnd_4 ?_
  refine f_geti (J := 6) rfl (by decide) rfl rfl fl_X2_35 dX2_isAtEnd_5 ?_
  rw [up_eq]
  refine g_aload0 dX2_isAtEnd_8 ?_
  refine f_geti (J := 1) rfl (by decide) rfl rfl fl_X2_15 dX2_isAtEnd_9 ?_
  rw [up_ne (by decide), h1]
  refine g_icmp_lt ⟨by omega, by omega⟩ ⟨by omega, by omega⟩ (tgt := 19) dX2_isAtEnd_12 rfl (fun h12 => ?_) (fun h12 => ?_)
  · refine g_iconst dX2_isAtEnd_19 ?_
    refine g_iretB (Or.inl rfl) rfl dX2_isAtEnd_20 ?_
    first
      | exact FX.ret1 (by omega) rfl
      | exact FX.ret0 (by omega) rfl
  · refine g_iconst dX2_isAtEnd_15 ?_
    refine g_goto (tgt := 20) dX2_isAtEnd_16 rfl ?_
    refine g_iretB (Or.inr rfl) rfl dX2_isAtEnd_20 ?_
    first
      | exact FX.ret1 (by omega) rfl
      | exact FX.ret0 (by omega) rfl
theorem readWord_ok {T : Int → Int} {N p : Nat} (hT : TX T N) (h1 : σ 9 1 = (N : Int)) (h10 : σ 10 = T) (h6 : σ 9 6 = (p : Int)) (hp : p ≤ N) : FO g zX2_readWord [.ref 9] σ l (up (up σ 9 7 (sk isSp T N p : Int)) 9 6 (sk isLt T N (sk isSp T N p) : Int)) := by
  have hN := hT.1
  have hs := sk_le (Q := isSp) (T := T) hp
  refine Fn.of [some (.ref 9)] rfl (by decide) (Nat.le_of_ble_eq_true rfl) rfl ?_
  have loop : ∀ d q : Nat, N - q = d → q ≤ N → sk isLt T N q = sk isLt T N (sk isSp T N p) → FW g zX2_readWord 0 0 (fun o σ' l' => o = .inl none ∧ σ' = up (up σ 9 7 (sk isSp T N p : Int)) 9 6 (sk isLt T N (sk isSp T N p) : Int) ∧ l' = l) 12 [some (.ref 9)] [] (up (up σ 9 7 ((sk isSp T N p) : Int)) 9 6 (q : Int)) l := by
    intro d
    induction d with
    | zero =>
      intro q hd hq he
      refine g_aload0 dX2_readWord_12 ?_
      refine f_geti (J := 6) rfl (by decide) rfl rfl fl_X2_35 dX2_readWord_13 ?_
      rw [up_eq]
      refine g_aload0 dX2_readWord_16 ?_
      refine f_geti (J := 1) rfl (by decide) rfl rfl fl_X2_15 dX2_readWord_17 ?_
      rw [up_ne (by decide), up_ne (by decide), h1]
      refine g_icmp_ge ⟨by omega, by omega⟩ ⟨by omega, by omega⟩ (tgt := 46) dX2_readWord_20 rfl (fun h20 => ?_) (fun h20 => absurd h20 (by omega))
      refine g_return rfl dX2_readWord_46 ?_
      exact FO.ret (by rw [← he, sk_e (Q := isLt) (p := q) (by omega)])
    | succ d ih =>
      intro q hd hq he
      refine g_aload0 dX2_readWord_12 ?_
      refine f_geti (J := 6) rfl (by decide) rfl rfl fl_X2_35 dX2_readWord_13 ?_
      rw [up_eq]
      refine g_aload0 dX2_readWord_16 ?_
      refine f_geti (J := 1) rfl (by decide) rfl rfl fl_X2_15 dX2_readWord_17 ?_
      rw [up_ne (by decide), up_ne (by decide), h1]
      refine g_icmp_ge ⟨by omega, by omega⟩ ⟨by omega, by omega⟩ (tgt := 46) dX2_readWord_20 rfl (fun h20 => ?_) (fun h20 => ?_)
      · refine g_return rfl dX2_readWord_46 ?_
        first
          | exact FO.ret (by rw [← he, sk_e (Q := isLt) (p := q) (by omega)])
          | exact FO.ret (by rw [← he, sk_e (Q := isLt) (p := q) (fun z => h30 (by rw [sgn_at z.1]; exact z.2))])
      · refine g_aload0 dX2_readWord_23 ?_
        refine f_cV0w (sign_ok hT (by rw [up_ne (by decide), up_ne (by decide)]; exact h1) (by rw [up_n (by decide), up_n (by decide)]; exact h10) (p := q) up_eq (by omega)) rfl (by decide) rfl oY_X2_sign oI_X2_sign lk_X2_85 rfl dX2_readWord_24 rfl (Or.inl rfl) ?_
        refine f_cS1w (isLetter_ok ⟨by have := sgn_rng (p := q) hT; omega, by have := sgn_rng (p := q) hT; omega⟩) oY_X2_isLetter oT_X2_isLetter lk_X2_93 rfl dX2_readWord_27 rfl (Or.inl rfl) ?_
        refine g_ifeqB (tgt := 46) dX2_readWord_30 rfl (fun h30 => ?_) (fun h30 => ?_)
        · refine g_return rfl dX2_readWord_46 ?_
          first
            | exact FO.ret (by rw [← he, sk_e (Q := isLt) (p := q) (by omega)])
            | exact FO.ret (by rw [← he, sk_e (Q := isLt) (p := q) (fun z => h30 (by rw [sgn_at z.1]; exact z.2))])
        · refine g_aload0 dX2_readWord_33 ?_
          refine g_dup rfl dX2_readWord_34 ?_
          refine f_geti (J := 6) rfl (by decide) rfl rfl fl_X2_35 dX2_readWord_35 ?_
          rw [up_eq]
          refine g_iconst dX2_readWord_38 ?_
          refine g_iadd dX2_readWord_39 ?_
          refine f_puti (J := 6) rfl (by decide) rfl rfl fl_X2_35 rfl (fun _ _ _ h => by cases h; rfl) dX2_readWord_40 ?_
          refine g_goto (tgt := 12) dX2_readWord_43 rfl ?_
          rw [up_up]
          exact ih (q + 1) (by omega) (by omega) (by rw [← he, ← sk_s (by omega) (by rw [← sgn_at (T := T) (N := N) (by omega)]; exact h30)])
  refine g_aload0 dX2_readWord_0 ?_
  refine f_cV0d (skipSpaces_ok hT h1 h10 h6 hp) rfl (by decide) rfl oY_X2_skipSpaces oI_X2_skipSpaces lk_X2_82 rfl dX2_readWord_1 rfl (Or.inl rfl) ?_
  refine g_aload0 dX2_readWord_4 ?_
  refine g_aload0 dX2_readWord_5 ?_
  refine f_geti (J := 6) rfl (by decide) rfl rfl fl_X2_35 dX2_readWord_6 ?_
  rw [up_eq]
  refine f_puti (J := 7) rfl (by decide) rfl rfl fl_X2_38 rfl (fun _ _ _ h => by cases h; rfl) dX2_readWord_9 ?_
  have h0 := loop _ (sk isSp T N p) rfl hs.2 rfl
  have em : up (up σ 9 7 ((sk isSp T N p) : Int)) 9 6 ((sk isSp T N p) : Int) = up (up σ 9 6 ((sk isSp T N p) : Int)) 9 7 ((sk isSp T N p) : Int) := by
    funext a b
    unfold up
    by_cases c6 : a = 9 ∧ b = 6
    · rw [if_pos c6, if_neg (by omega), if_pos c6]
    · rw [if_neg c6, if_neg c6]
  rw [em] at h0
  exact h0
theorem isWord_ok {T : Int → Int} {N q e i : Nat} (hT : TX T N) (h10 : σ 10 = T) (h6 : σ 9 6 = (e : Int)) (h7 : σ 9 7 = (q : Int)) (hqe : q ≤ e ∧ e ≤ N) (hi : i < 6) [Decidable (isW T q e i)] : Fw g zX2_isWord [.ref 9, .ref (KB + (2 + i))] σ l (bv (isW T q e i)) := by
  have hN := hT.1
  have h77 := wdN_le hi
  refine Fn.of [some (.ref 9), some (.ref (KB + (2 + i))), none] rfl (by decide) (Nat.le_of_ble_eq_true rfl) rfl ?_
  have loop : e - q = wdN i → ∀ k, k ≤ wdN i → ∀ x : Int, x = (k : Int) → (∀ j : Nat, j < k → T ((q + j : Nat) : Int) = wd i j) → FW g zX2_isWord 0 0 (fun o σ' l' => o = .inl (some (bv (isW T q e i))) ∧ σ' = σ ∧ l' = l) 20 [some (.ref 9), some (.ref (KB + (2 + i))), some (iv x)] [] σ l := by
    intro he
    refine loopUp _ (fun k hk ih x hx hall => ?_)
    subst hx
    refine g_iload2 dX2_isWord_20 ?_
    refine g_aload1 dX2_isWord_21 ?_
    refine f_cK0w (stLen_ok hi) hi rfl oY_J0_length_8abf5 oI_J0_length_8abf5 lk_X2_97 rfl dX2_isWord_22 rfl (Or.inl rfl) ?_
    refine g_icmp_ge ⟨by omega, by omega⟩ ⟨by omega, by omega⟩ (tgt := 57) dX2_isWord_25 rfl (fun h25 => ?_) (fun h25 => ?_)
    · refine g_iconst dX2_isWord_57 ?_
      refine g_iretB (Or.inr rfl) rfl dX2_isWord_58 ?_
      exact Fw.ret (by rw [if_pos ⟨he, fun j hj => hall j (by omega)⟩])
    · refine g_aload0 dX2_isWord_28 ?_
      refine f_getr (r := 10) rfl (by decide) rfl rfl fl_X2_9 dX2_isWord_29 ?_
      refine g_aload0 dX2_isWord_32 ?_
      refine f_geti (J := 7) rfl (by decide) rfl rfl fl_X2_38 dX2_isWord_33 ?_
      rw [h7]
      refine g_iload2 dX2_isWord_36 ?_
      refine g_iadd dX2_isWord_37 ?_
      refine f_cS2w (atI rfl (by decide) (by omega) (by show (q : Int) + (k : Int) < (400 : Nat); omega)) oY_X5_at oT_X5_at lk_X2_102 rfl dX2_isWord_38 rfl (Or.inl rfl) ?_
      rw [h10, show (q : Int) + (k : Int) = ((q + k : Nat) : Int) from by push_cast; rfl]
      have hb := hT.2 (q + k) (by omega)
      have hr := wd_rng hi (j := k) (by omega)
      refine g_aload1 dX2_isWord_41 ?_
      refine g_iload2 dX2_isWord_42 ?_
      refine f_cK1w (stChar_ok hi (by omega)) hi rfl oY_J0_charAt_5068e oI_J0_charAt_5068e lk_X2_106 rfl dX2_isWord_43 rfl (Or.inl rfl) ?_
      refine g_icmp_eq ⟨by omega, by omega⟩ ⟨by omega, by omega⟩ (tgt := 51) dX2_isWord_46 rfl (fun h46 => ?_) (fun h46 => ?_)
      · refine g_iinc2 dX2_isWord_51 rfl (by decide) ?_
        refine g_goto (tgt := 20) dX2_isWord_54 rfl ?_
        refine ih (by omega) _ (by push_cast; omega) (fun j hj => ?_)
        by_cases ej : j = k
        · subst ej; exact h46
        · exact hall j (by omega)
      · refine g_iconst dX2_isWord_49 ?_
        refine g_iretB (Or.inl rfl) rfl dX2_isWord_50 ?_
        exact Fw.ret (by rw [if_neg (fun z => h46 (z.2 k (by omega)))])
  refine g_aload0 dX2_isWord_0 ?_
  refine f_geti (J := 6) rfl (by decide) rfl rfl fl_X2_35 dX2_isWord_1 ?_
  rw [h6]
  refine g_aload0 dX2_isWord_4 ?_
  refine f_geti (J := 7) rfl (by decide) rfl rfl fl_X2_38 dX2_isWord_5 ?_
  rw [h7]
  refine g_isub dX2_isWord_8 ?_
  refine g_aload1 dX2_isWord_9 ?_
  refine f_cK0w (stLen_ok hi) hi rfl oY_J0_length_8abf5 oI_J0_length_8abf5 lk_X2_97 rfl dX2_isWord_10 rfl (Or.inl rfl) ?_
  refine g_icmp_eq ⟨by omega, by omega⟩ ⟨by omega, by omega⟩ (tgt := 18) dX2_isWord_13 rfl (fun h13 => ?_) (fun h13 => ?_)
  · refine g_iconst dX2_isWord_18 ?_
    refine g_istore2 dX2_isWord_19 rfl (by decide) ?_
    exact loop (by omega) 0 (Nat.zero_le _) _ rfl (fun j hj => by omega)
  · refine g_iconst dX2_isWord_16 ?_
    refine g_iretB (Or.inl rfl) rfl dX2_isWord_17 ?_
    exact Fw.ret (by rw [if_neg (fun z => h13 (by have := z.1; omega))])
/-- the outcome of a step that can fail -/
def Rz (σ : sT) (l : Nat → Nat) (A : Int × Nat → sT → Prop) (B : Int × Nat → sT → Prop) (r : Sum (Int × Nat) (Int × Nat)) : mO → sT → (Nat → Nat) → Prop := fun o τ l' => l' = l ∧ match r with
  | .inl e => o = .inl (some (iv 0)) ∧ A e τ
  | .inr q => o = .inl (some (iv 1)) ∧ B q τ
theorem Rz.split {A B : Int × Nat → sT → Prop} {r : Sum (Int × Nat) (Int × Nat)} {v : Option Value} {τ : sT} {l' : Nat → Nat} (h : Rz σ l A B r (.inl v) τ l') : l' = l ∧ ((∃ k pl, r = .inl (k, pl) ∧ v = some (iv 0) ∧ A (k, pl) τ) ∨ ∃ w e, r = .inr (w, e) ∧ v = some (iv 1) ∧ B (w, e) τ) := by
  obtain ⟨h1, h2⟩ := h
  refine ⟨h1, ?_⟩
  rcases r with ⟨k, pl⟩ | ⟨w, e⟩
  · exact Or.inl ⟨k, pl, rfl, by cases h2.1; rfl, h2.2⟩
  · exact Or.inr ⟨w, e, rfl, by cases h2.1; rfl, h2.2⟩
theorem Rz.nx {A B : Int × Nat → sT → Prop} {r : Sum (Int × Nat) (Int × Nat)} {e : Nat} {τ : sT} {l' : Nat → Nat} (h : Rz σ l A B r (.inr e) τ l') : False := by
  obtain ⟨h1, h2⟩ := h
  rcases r with e | q
  · cases h2.1
  · cases h2.1
def nmA (σ : sT) (e : Int × Nat) (τ : sT) : Prop := N9 σ τ ∧ τ 9 2 = e.1 ∧ τ 9 3 = (e.2 : Int)
def nmB (σ : sT) (st : Nat) (q : Int × Nat) (τ : sT) : Prop := N9 σ τ ∧ τ 9 2 = σ 9 2 ∧ τ 9 3 = σ 9 3 ∧ τ 9 6 = (q.2 : Int) ∧ τ 9 7 = (st : Int) ∧ τ 9 8 = q.1
theorem readNumber_ok {T : Int → Int} {N p : Nat} (hT : TX T N) (h1 : σ 9 1 = (N : Int)) (h10 : σ 10 = T) (h6 : σ 9 6 = (p : Int)) (hp : p ≤ N) {lo hi : Int} (hlo : R32 lo) (hhi : R32 hi) : Fn g zX2_readNumber 0 0 [.ref 9, iv lo, iv hi] σ l (Rz σ l (nmA σ) (nmB σ (sk isSp T N p)) (rNum T N lo hi p)) := by
  have hN := hT.1
  have hs := sk_le (Q := isSp) (T := T) hp
  refine Fn.of [some (.ref 9), some (iv lo), some (iv hi)] rfl (by decide) (Nat.le_of_ble_eq_true rfl) rfl ?_
  have loop : isDg (sgn T N (sk isSp T N p)) = true → ∀ d q : Nat, N - q = d → q ≤ N → ∀ v : Int, 0 ≤ v → v ≤ 1000000 → sk isDg T N q = sk isDg T N (sk isSp T N p) → nuV T N q v = nuV T N (sk isSp T N p) 0 → FW g zX2_readNumber 0 0 (Rz σ l (nmA σ) (nmB σ (sk isSp T N p)) (rNum T N lo hi p)) 37 [some (.ref 9), some (iv lo), some (iv hi)] [] (up (up (up σ 9 7 ((sk isSp T N p) : Int)) 9 8 (v)) 9 6 (q : Int)) l := by
    intro hdg
    have fin : ∀ q : Nat, q ≤ N → ∀ v : Int, 0 ≤ v → v ≤ 1000000 → q = sk isDg T N (sk isSp T N p) → v = nuV T N (sk isSp T N p) 0 → FW g zX2_readNumber 0 0 (Rz σ l (nmA σ) (nmB σ (sk isSp T N p)) (rNum T N lo hi p)) 95 [some (.ref 9), some (iv lo), some (iv hi)] [] (up (up (up σ 9 7 ((sk isSp T N p) : Int)) 9 8 (v)) 9 6 (q : Int)) l := by
      intro q hq v v0 v1 heq hev
      have hn9 : N9 σ (up (up (up σ 9 7 ((sk isSp T N p) : Int)) 9 8 (v)) 9 6 (q : Int)) := (((N9.refl σ).up (by decide)).up (by decide)).up (by decide)
      refine g_aload0 dX2_readNumber_95 ?_
      refine f_geti (J := 8) rfl (by decide) rfl rfl fl_X2_41 dX2_readNumber_96 ?_
      rw [up_ne (by decide), up_eq]
      refine g_iload1 dX2_readNumber_99 ?_
      refine g_icmp_lt ⟨by omega, by omega⟩ hlo (tgt := 111) dX2_readNumber_100 rfl (fun h100 => ?_) (fun h100 => ?_)
      · refine g_aload0 dX2_readNumber_111 ?_
        refine g_iconst dX2_readNumber_112 ?_
        refine g_aload0 dX2_readNumber_113 ?_
        refine f_geti (J := 7) rfl (by decide) rfl rfl fl_X2_38 dX2_readNumber_114 ?_
        rw [up_ne (by decide), up_ne (by decide), up_eq]
        refine f_cV2x (fail_ok) rfl (by decide) rfl oY_X2_fail oI_X2_fail lk_X2_89 rfl dX2_readNumber_117 rfl (Or.inl rfl) ?_
        refine g_if_eq ⟨by decide, by decide⟩ (tgt := 127) dX2_readNumber_120 rfl (fun h120 => ?_) (fun h120 => absurd h120 (by decide))
        refine g_iconst dX2_readNumber_127 ?_
        refine g_iretB (Or.inl rfl) rfl dX2_readNumber_128 ?_
        first
          | (have hz : rNum T N lo hi p = .inr (v, q) := by
              unfold rNum
              rw [if_pos hdg, if_pos (by omega), ← hev, ← heq]
             rw [hz]
             exact fn_ret ⟨rfl, rfl, hn9, by rw [up_ne (by decide), up_ne (by decide), up_ne (by decide)], by rw [up_ne (by decide), up_ne (by decide), up_ne (by decide)], up_eq, by rw [up_ne (by decide), up_ne (by decide), up_eq], by rw [up_ne (by decide), up_eq]⟩)
          | (have hz : rNum T N lo hi p = .inl (2, sk isSp T N p) := by
              unfold rNum
              rw [if_pos hdg, if_neg (by omega)]
             rw [hz]
             exact fn_ret ⟨rfl, rfl, (hn9.up (by decide)).up (by decide), by rw [up_ne (by decide), up_eq], up_eq⟩)
      · refine g_aload0 dX2_readNumber_103 ?_
        refine f_geti (J := 8) rfl (by decide) rfl rfl fl_X2_41 dX2_readNumber_104 ?_
        rw [up_ne (by decide), up_eq]
        refine g_iload2 dX2_readNumber_107 ?_
        refine g_icmp_le ⟨by omega, by omega⟩ hhi (tgt := 123) dX2_readNumber_108 rfl (fun h108 => ?_) (fun h108 => ?_)
        · refine g_iconst dX2_readNumber_123 ?_
          refine g_goto (tgt := 128) dX2_readNumber_124 rfl ?_
          refine g_iretB (Or.inr rfl) rfl dX2_readNumber_128 ?_
          first
            | (have hz : rNum T N lo hi p = .inr (v, q) := by
                unfold rNum
                rw [if_pos hdg, if_pos (by omega), ← hev, ← heq]
               rw [hz]
               exact fn_ret ⟨rfl, rfl, hn9, by rw [up_ne (by decide), up_ne (by decide), up_ne (by decide)], by rw [up_ne (by decide), up_ne (by decide), up_ne (by decide)], up_eq, by rw [up_ne (by decide), up_ne (by decide), up_eq], by rw [up_ne (by decide), up_eq]⟩)
            | (have hz : rNum T N lo hi p = .inl (2, sk isSp T N p) := by
                unfold rNum
                rw [if_pos hdg, if_neg (by omega)]
               rw [hz]
               exact fn_ret ⟨rfl, rfl, (hn9.up (by decide)).up (by decide), by rw [up_ne (by decide), up_eq], up_eq⟩)
        · refine g_aload0 dX2_readNumber_111 ?_
          refine g_iconst dX2_readNumber_112 ?_
          refine g_aload0 dX2_readNumber_113 ?_
          refine f_geti (J := 7) rfl (by decide) rfl rfl fl_X2_38 dX2_readNumber_114 ?_
          rw [up_ne (by decide), up_ne (by decide), up_eq]
          refine f_cV2x (fail_ok) rfl (by decide) rfl oY_X2_fail oI_X2_fail lk_X2_89 rfl dX2_readNumber_117 rfl (Or.inl rfl) ?_
          refine g_if_eq ⟨by decide, by decide⟩ (tgt := 127) dX2_readNumber_120 rfl (fun h120 => ?_) (fun h120 => absurd h120 (by decide))
          refine g_iconst dX2_readNumber_127 ?_
          refine g_iretB (Or.inl rfl) rfl dX2_readNumber_128 ?_
          first
            | (have hz : rNum T N lo hi p = .inr (v, q) := by
                unfold rNum
                rw [if_pos hdg, if_pos (by omega), ← hev, ← heq]
               rw [hz]
               exact fn_ret ⟨rfl, rfl, hn9, by rw [up_ne (by decide), up_ne (by decide), up_ne (by decide)], by rw [up_ne (by decide), up_ne (by decide), up_ne (by decide)], up_eq, by rw [up_ne (by decide), up_ne (by decide), up_eq], by rw [up_ne (by decide), up_eq]⟩)
            | (have hz : rNum T N lo hi p = .inl (2, sk isSp T N p) := by
                unfold rNum
                rw [if_pos hdg, if_neg (by omega)]
               rw [hz]
               exact fn_ret ⟨rfl, rfl, (hn9.up (by decide)).up (by decide), by rw [up_ne (by decide), up_eq], up_eq⟩)
    intro d
    induction d with
    | zero =>
      intro q hd hq v v0 v1 heq hev
      refine g_aload0 dX2_readNumber_37 ?_
      refine f_geti (J := 6) rfl (by decide) rfl rfl fl_X2_35 dX2_readNumber_38 ?_
      rw [up_eq]
      refine g_aload0 dX2_readNumber_41 ?_
      refine f_geti (J := 1) rfl (by decide) rfl rfl fl_X2_15 dX2_readNumber_42 ?_
      rw [up_ne (by decide), up_ne (by decide), up_ne (by decide), h1]
      refine g_icmp_ge ⟨by omega, by omega⟩ ⟨by omega, by omega⟩ (tgt := 95) dX2_readNumber_45 rfl (fun h45 => ?_) (fun h45 => absurd h45 (by omega))
      exact fin q hq v v0 v1 (by rw [← heq, sk_e (by omega)]) (by rw [← hev, nu_e (by omega)])
    | succ d ih =>
      intro q hd hq v v0 v1 heq hev
      refine g_aload0 dX2_readNumber_37 ?_
      refine f_geti (J := 6) rfl (by decide) rfl rfl fl_X2_35 dX2_readNumber_38 ?_
      rw [up_eq]
      refine g_aload0 dX2_readNumber_41 ?_
      refine f_geti (J := 1) rfl (by decide) rfl rfl fl_X2_15 dX2_readNumber_42 ?_
      rw [up_ne (by decide), up_ne (by decide), up_ne (by decide), h1]
      refine g_icmp_ge ⟨by omega, by omega⟩ ⟨by omega, by omega⟩ (tgt := 95) dX2_readNumber_45 rfl (fun h45 => ?_) (fun h45 => ?_)
      · first
          | exact fin q hq v v0 v1 (by rw [← heq, sk_e (by omega)]) (by rw [← hev, nu_e (by omega)])
          | exact fin q hq v v0 v1 (by rw [← heq, sk_e (fun z => h55 (by rw [sgn_at z.1]; exact z.2))]) (by rw [← hev, nu_e (fun z => h55 (by rw [sgn_at z.1]; exact z.2))])
      · refine g_aload0 dX2_readNumber_48 ?_
        refine f_cV0w (sign_ok hT (by rw [up_ne (by decide), up_ne (by decide), up_ne (by decide)]; exact h1) (by rw [up_n (by decide), up_n (by decide), up_n (by decide)]; exact h10) (p := q) up_eq (by omega)) rfl (by decide) rfl oY_X2_sign oI_X2_sign lk_X2_85 rfl dX2_readNumber_49 rfl (Or.inl rfl) ?_
        refine f_cS1w (isDigit_ok ⟨by have := sgn_rng (p := q) hT; omega, by have := sgn_rng (p := q) hT; omega⟩) oY_X2_isDigit oT_X2_isDigit lk_X2_110 rfl dX2_readNumber_52 rfl (Or.inl rfl) ?_
        refine g_ifeqB (tgt := 95) dX2_readNumber_55 rfl (fun h55 => ?_) (fun h55 => ?_)
        · first
            | exact fin q hq v v0 v1 (by rw [← heq, sk_e (by omega)]) (by rw [← hev, nu_e (by omega)])
            | exact fin q hq v v0 v1 (by rw [← heq, sk_e (fun z => h55 (by rw [sgn_at z.1]; exact z.2))]) (by rw [← hev, nu_e (fun z => h55 (by rw [sgn_at z.1]; exact z.2))])
        · have hsd : sgn T N q = T q := sgn_at (by omega)
          rw [hsd] at h55
          have hdd : 48 ≤ T q ∧ T q ≤ 57 := of_decide_eq_true h55
          refine g_aload0 dX2_readNumber_58 ?_
          refine g_bipush dX2_readNumber_59 (by decide) ?_
          refine g_aload0 dX2_readNumber_61 ?_
          refine f_geti (J := 8) rfl (by decide) rfl rfl fl_X2_41 dX2_readNumber_62 ?_
          rw [up_ne (by decide), up_eq]
          refine g_imul dX2_readNumber_65 ?_
          refine g_aload0 dX2_readNumber_66 ?_
          refine f_cV0w (sign_ok hT (by rw [up_ne (by decide), up_ne (by decide), up_ne (by decide)]; exact h1) (by rw [up_n (by decide), up_n (by decide), up_n (by decide)]; exact h10) (p := q) up_eq (by omega)) rfl (by decide) rfl oY_X2_sign oI_X2_sign lk_X2_85 rfl dX2_readNumber_67 rfl (Or.inl rfl) ?_
          rw [hsd]
          refine g_iadd dX2_readNumber_70 ?_
          refine g_bipush dX2_readNumber_71 (by decide) ?_
          refine g_isub dX2_readNumber_73 ?_
          refine g_ldc (v := Int32.ofInt (1000000)) kc_X2_113 dX2_readNumber_74 ?_
          refine g_mmin ⟨by omega, by omega⟩ ⟨by decide, by decide⟩ ma_X2_76 ⟨by decide, Nat.le_of_ble_eq_true rfl⟩ dX2_readNumber_76 ?_
          refine f_puti (J := 8) rfl (by decide) rfl rfl fl_X2_41 rfl (fun _ _ _ h => by cases h; rfl) dX2_readNumber_79 ?_
          refine g_aload0 dX2_readNumber_82 ?_
          refine g_dup rfl dX2_readNumber_83 ?_
          refine f_geti (J := 6) rfl (by decide) rfl rfl fl_X2_35 dX2_readNumber_84 ?_
          rw [up_ne (by decide), up_eq]
          refine g_iconst dX2_readNumber_87 ?_
          refine g_iadd dX2_readNumber_88 ?_
          refine f_puti (J := 6) rfl (by decide) rfl rfl fl_X2_35 rfl (fun _ _ _ h => by cases h; rfl) dX2_readNumber_89 ?_
          refine g_goto (tgt := 37) dX2_readNumber_92 rfl ?_
          have em : up (up (up (up (up σ 9 7 ((sk isSp T N p) : Int)) 9 8 (v)) 9 6 (q : Int)) 9 8 (min (10 * v + T q - 48) 1000000)) 9 6 ((q : Int) + 1) = (up (up (up σ 9 7 ((sk isSp T N p) : Int)) 9 8 (min (10 * v + T q - 48) 1000000)) 9 6 ((q + 1 : Nat) : Int)) := by
            funext a b
            unfold up
            by_cases c6 : a = 9 ∧ b = 6
            · simp only [if_pos c6]; push_cast; rfl
            · simp only [if_neg c6]
              by_cases c8 : a = 9 ∧ b = 8
              · simp only [if_pos c8]
              · simp only [if_neg c8]
          rw [em]
          exact ih (q + 1) (by omega) (by omega) _ (by omega) (by omega) (by rw [← heq, ← sk_s (by omega) h55]) (by rw [← hev, ← nu_s (by omega) h55])
  refine g_aload0 dX2_readNumber_0 ?_
  refine f_cV0d (skipSpaces_ok hT h1 h10 h6 hp) rfl (by decide) rfl oY_X2_skipSpaces oI_X2_skipSpaces lk_X2_82 rfl dX2_readNumber_1 rfl (Or.inl rfl) ?_
  refine g_aload0 dX2_readNumber_4 ?_
  refine g_aload0 dX2_readNumber_5 ?_
  refine f_geti (J := 6) rfl (by decide) rfl rfl fl_X2_35 dX2_readNumber_6 ?_
  rw [up_eq]
  refine f_puti (J := 7) rfl (by decide) rfl rfl fl_X2_38 rfl (fun _ _ _ h => by cases h; rfl) dX2_readNumber_9 ?_
  refine g_aload0 dX2_readNumber_12 ?_
  refine f_cV0w (sign_ok hT (by rw [up_ne (by decide), up_ne (by decide)]; exact h1) (by rw [up_n (by decide), up_n (by decide)]; exact h10) (p := (sk isSp T N p)) (by rw [up_ne (by decide), up_eq]) hs.2) rfl (by decide) rfl oY_X2_sign oI_X2_sign lk_X2_85 rfl dX2_readNumber_13 rfl (Or.inl rfl) ?_
  refine f_cS1w (isDigit_ok ⟨by have := sgn_rng (p := (sk isSp T N p)) hT; omega, by have := sgn_rng (p := (sk isSp T N p)) hT; omega⟩) oY_X2_isDigit oT_X2_isDigit lk_X2_110 rfl dX2_readNumber_16 rfl (Or.inl rfl) ?_
  refine g_ifneB (tgt := 32) dX2_readNumber_19 rfl (fun h19 => ?_) (fun h19 => ?_)
  · refine g_aload0 dX2_readNumber_32 ?_
    refine g_iconst dX2_readNumber_33 ?_
    refine f_puti (J := 8) rfl (by decide) rfl rfl fl_X2_41 rfl (fun _ _ _ h => by cases h; rfl) dX2_readNumber_34 ?_
    have h0 := loop h19 _ (sk isSp T N p) rfl hs.2 0 (by decide) (by decide) rfl rfl
    have em : (up (up (up σ 9 7 ((sk isSp T N p) : Int)) 9 8 (0)) 9 6 ((sk isSp T N p) : Int)) = up (up (up σ 9 6 ((sk isSp T N p) : Int)) 9 7 ((sk isSp T N p) : Int)) 9 8 0 := by
      funext a b
      unfold up
      by_cases c6 : a = 9 ∧ b = 6
      · rw [if_pos c6, if_neg (by omega), if_neg (by omega), if_pos c6]
      · rw [if_neg c6, if_neg c6]
    rw [em] at h0
    exact h0
  · refine g_aload0 dX2_readNumber_22 ?_
    refine g_iconst dX2_readNumber_23 ?_
    refine g_aload0 dX2_readNumber_24 ?_
    refine f_geti (J := 6) rfl (by decide) rfl rfl fl_X2_35 dX2_readNumber_25 ?_
    rw [up_ne (by decide), up_eq]
    refine f_cV2x (fail_ok) rfl (by decide) rfl oY_X2_fail oI_X2_fail lk_X2_89 rfl dX2_readNumber_28 rfl (Or.inl rfl) ?_
    refine g_iretB (Or.inl rfl) rfl dX2_readNumber_31 ?_
    have hz : rNum T N lo hi p = .inl (1, (sk isSp T N p)) := by
      unfold rNum
      rw [if_neg h19]
    rw [hz]
    exact fn_ret ⟨rfl, rfl, ((((N9.refl σ).up (by decide)).up (by decide)).up (by decide)).up (by decide), by rw [up_ne (by decide), up_eq], up_eq⟩
end C60
