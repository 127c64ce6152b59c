/-! Fingerings.growTo -/
section C23
variable {g : gT} {σ : sT} {l : Nat → Nat}
theorem pw_nat {h : Nat} (hh : h < 8) : pw (h : Int) = ((3 ^ h : Nat) : Int) := by
  unfold pw
  rw [if_pos (by omega)]
  rfl
theorem p3_le {h : Nat} (hh : h ≤ 7) : ((3 ^ h : Nat) : Int) ≤ 2187 := by
  have h2 : ∀ j : Nat, j ≤ 7 → ((3 ^ j : Nat) : Int) ≤ 2187 := by decide
  exact h2 h hh
theorem p3_pos (h : Nat) : 0 < ((3 ^ h : Nat) : Int) := by
  have := Nat.pow_pos (n := h) (show 0 < 3 by decide)
  omega
theorem p3_succ (h : Nat) : ((3 ^ (h + 1) : Nat) : Int) = 3 * ((3 ^ h : Nat) : Int) := by
  rw [Nat.pow_succ]; omega
theorem p3_lt {a b : Nat} (h : a < b) : ((3 ^ a : Nat) : Int) < ((3 ^ b : Nat) : Int) := by
  have := Nat.pow_lt_pow_right (a := 3) (by decide) h
  omega
theorem p3_mono {a b : Nat} (h : a ≤ b) : ((3 ^ a : Nat) : Int) ≤ ((3 ^ b : Nat) : Int) := by
  have := Nat.pow_le_pow_right (n := 3) (by decide) h
  omega
def FG1 (τ : sT) (p : Int) : Prop := τ 18 p = (cdN p : Int) ∧ τ 19 p = hvF p ∧ τ 20 p = crF p
def FG (τ : sT) (K : Int) : Prop := ∀ p, 0 ≤ p → p < K → FG1 τ p
def FGi (τ : sT) (Q t : Int) : Prop := ∀ p, ((0 ≤ p ∧ p < Q) ∨ (Q ≤ p ∧ p < Q + t) ∨ (2 * Q ≤ p ∧ p < 2 * Q + t)) → FG1 τ p
theorem lcS_ne {τ : sT} {lo Q p : Int} {h c a : Nat} (h1 : p ≠ lo + Q) (h2 : p ≠ lo + Q + Q) : lcS τ lo Q h c a p = τ a p := by
  unfold lcS
  simp (disch := omega) only [up_ne]
theorem lcS_n {τ : sT} {lo Q : Int} {h c a : Nat} (h1 : a < 18 ∨ 20 < a) : lcS τ lo Q h c a = τ a := by
  unfold lcS
  rw [up_n (by omega), up_n (by omega), up_n (by omega), up_n (by omega), up_n (by omega), up_n (by omega)]
theorem FGi_step {τ : sT} {t Q : Int} {h : Nat} (hh : h ≤ 6) (hQ : Q = ((3 ^ h : Nat) : Int)) (h0 : 0 ≤ t) (hlt : t < Q) (H : FGi τ Q t) : FGi (lcS τ t Q h (cdN t)) Q (t + 1) := by
  intro p hp
  have Ht := H t (Or.inl ⟨h0, hlt⟩)
  obtain ⟨a1, a2, a3⟩ := st_1 hh hQ h0 hlt
  obtain ⟨b1, b2, b3⟩ := st_2 hh hQ h0 hlt
  by_cases e1 : p = t + Q
  · subst e1
    unfold FG1 lcS
    rw [a1, a2, a3]
    simp (disch := omega) only [up_ne, up_eq]
    exact ⟨trivial, by rw [Ht.2.1], Ht.2.2⟩
  · by_cases e2 : p = t + Q + Q
    · subst e2
      unfold FG1 lcS
      rw [b1, b2, b3]
      simp (disch := omega) only [up_ne, up_eq]
      exact ⟨trivial, Ht.2.1, by rw [Ht.2.2]⟩
    · unfold FG1
      rw [lcS_ne e1 e2, lcS_ne e1 e2, lcS_ne e1 e2]
      exact H p (by omega)
def upl5 (l : Nat → Nat) (K : Nat) : Nat → Nat := upl (upl (upl (upl (upl l 18 K) 19 K) 20 K) 21 K) 22 K
theorem upl5_in {l : Nat → Nat} {K a : Nat} (hK : K ≤ 400000) (ha : 18 ≤ a ∧ a ≤ 22) : ln (upl5 l K) a = K := by
  have h1 : a = 18 ∨ a = 19 ∨ a = 20 ∨ a = 21 ∨ a = 22 := by omega
  rcases h1 with rfl | rfl | rfl | rfl | rfl <;> (unfold ln upl5 upl; rw [if_neg (by decide)]; simp <;> omega)
theorem upl5_out {l : Nat → Nat} {K a : Nat} (ha : a < 18 ∨ 22 < a) : upl5 l K a = l a := by
  unfold upl5 upl
  rw [if_neg (by omega), if_neg (by omega), if_neg (by omega), if_neg (by omega), if_neg (by omega)]
theorem growTo_ok {K H : Nat} (hH : H ≤ 7) (hK : K = 3 ^ H) : Fu g zX1_growTo 5 (5 * K) [.ref 17, iv (K : Int)] σ l (fun σ' l' => (∀ a, a < 18 ∨ 22 < a → σ' a = σ a) ∧ FG σ' K ∧ l' = upl5 l K) := by
  have hK7 : K ≤ 2187 := by
    have := p3_le hH
    omega
  have hKi : (K : Int) = ((3 ^ H : Nat) : Int) := by rw [hK]
  refine Fn.of [some (.ref 17), some (iv (K : Int)), none, none, none] rfl (by decide) (Nat.le_of_ble_eq_true rfl) rfl ?_
  have q18 : ln (upl5 l K) 18 = K := upl5_in (by omega) (by decide)
  have q19 : ln (upl5 l K) 19 = K := upl5_in (by omega) (by decide)
  have q20 : ln (upl5 l K) 20 = K := upl5_in (by omega) (by decide)
  have outer : ∀ h, h ≤ H → ∀ (i : Int) (τ : sT), i = (h : Int) → (∀ a, a < 18 ∨ 22 < a → τ a = σ a) → FG τ ((3 ^ h : Nat) : Int) → FW g zX1_growTo (5 - 1 - 1 - 1 - 1 - 1) (5 * K - K - K - K - K - K) (fun q σ' l' => q = .inl none ∧ (∀ a, a < 18 ∨ 22 < a → σ' a = σ a) ∧ FG σ' K ∧ l' = upl5 l K) 37 [some (.ref 17), some (iv (K : Int)), some (iv i), none, none] [] τ (upl5 l K) := by
    refine loopUp H (fun h hh ih i τ hi hfr hFG => ?_)
    subst hi
    have hp0 := p3_pos h
    have hple := p3_le (h := h) (by omega)
    refine g_iload2 dX1_growTo_37 ?_
    refine g_bipush dX1_growTo_38 (by decide) ?_
    refine g_icmp_ge ⟨by omega, by omega⟩ ⟨by omega, by omega⟩ (tgt := 91) dX1_growTo_40 rfl (fun h40 => ?_) (fun h40 => ?_)
    · refine g_return rfl dX1_growTo_91 ?_
      refine Fu.ret ⟨hfr, ?_, rfl⟩
      have hhH : h = H := by
        apply Nat.le_antisymm hh
        apply Nat.le_of_not_lt
        intro h9
        have h8 := p3_lt h9
        omega
      rw [hKi, ← hhH]
      exact hFG
    · refine g_gets lf_X1_69 dX1_growTo_43 ?_
      refine g_iload2 dX1_growTo_46 ?_
      refine f_cS2w (atP_ok ⟨by omega, by omega⟩) oY_X5_at oT_X5_at lk_X1_57 rfl dX1_growTo_47 rfl (Or.inl rfl) ?_
      rw [pw_nat (by omega)]
      refine g_iload1 dX1_growTo_50 ?_
      refine g_icmp_ge ⟨by omega, by omega⟩ ⟨by omega, by omega⟩ (tgt := 91) dX1_growTo_51 rfl (fun h51 => ?_) (fun h51 => ?_)
      · refine g_return rfl dX1_growTo_91 ?_
        refine Fu.ret ⟨hfr, ?_, rfl⟩
        have hhH : h = H := by
          apply Nat.le_antisymm hh
          apply Nat.le_of_not_lt
          intro h9
          have h8 := p3_lt h9
          omega
        rw [hKi, ← hhH]
        exact hFG
      · refine g_gets lf_X1_69 dX1_growTo_54 ?_
        refine g_iload2 dX1_growTo_57 ?_
        refine f_cS2w (atP_ok ⟨by omega, by omega⟩) oY_X5_at oT_X5_at lk_X1_57 rfl dX1_growTo_58 rfl (Or.inl rfl) ?_
        rw [pw_nat (by omega)]
        refine g_istore3 dX1_growTo_61 rfl (by decide) ?_
        refine g_iconst dX1_growTo_62 ?_
        refine g_istore4 dX1_growTo_63 rfl (by decide) ?_
        have hhH : h < H := by
          apply Nat.lt_of_le_of_ne hh
          intro e9
          rw [e9] at h51
          omega
        have h3K : 3 * ((3 ^ h : Nat) : Int) ≤ (K : Int) := by
          rw [← p3_succ, hKi]
          exact p3_mono hhH
        have inn : ∀ t : Nat, (t : Int) ≤ ((3 ^ h : Nat) : Int) → ∀ (j : Int) (τ2 : sT), j = (t : Int) → (∀ a, a < 18 ∨ 22 < a → τ2 a = σ a) → FGi τ2 ((3 ^ h : Nat) : Int) t → FW g zX1_growTo (5 - 1 - 1 - 1 - 1 - 1) (5 * K - K - K - K - K - K) (fun q σ' l' => q = .inl none ∧ (∀ a, a < 18 ∨ 22 < a → σ' a = σ a) ∧ FG σ' K ∧ l' = upl5 l K) 65 [some (.ref 17), some (iv (K : Int)), some (iv (h : Int)), some (iv ((3 ^ h : Nat) : Int)), some (iv j)] [] τ2 (upl5 l K) := by
          intro t ht
          refine loopUp (Q := fun t => ∀ (j : Int) (τ2 : sT), j = (t : Int) → (∀ a, a < 18 ∨ 22 < a → τ2 a = σ a) → FGi τ2 ((3 ^ h : Nat) : Int) t → FW g zX1_growTo (5 - 1 - 1 - 1 - 1 - 1) (5 * K - K - K - K - K - K) (fun q σ' l' => q = .inl none ∧ (∀ a, a < 18 ∨ 22 < a → σ' a = σ a) ∧ FG σ' K ∧ l' = upl5 l K) 65 [some (.ref 17), some (iv (K : Int)), some (iv (h : Int)), some (iv ((3 ^ h : Nat) : Int)), some (iv j)] [] τ2 (upl5 l K)) (3 ^ h) (fun t ht ih2 j τ2 hj hfr2 hF => ?_) t (by omega)
          subst hj
          refine g_iload4 dX1_growTo_65 ?_
          refine g_iload3 dX1_growTo_67 ?_
          refine g_icmp_ge ⟨by omega, by omega⟩ ⟨by omega, by omega⟩ (tgt := 85) dX1_growTo_68 rfl (fun h68 => ?_) (fun h68 => ?_)
          · refine g_iinc2 dX1_growTo_85 rfl (by decide) ?_
            refine g_goto (tgt := 37) dX1_growTo_88 rfl ?_
            refine g_forget 3 ?_
            refine g_forget 4 ?_
            exact ih hhH _ _ (by push_cast; omega) hfr2 (by
              rw [p3_succ]
              intro p h7 h8
              exact hF p (by omega))
          · refine g_aload0 dX1_growTo_71 ?_
            refine g_iload4 dX1_growTo_72 ?_
            refine g_iload3 dX1_growTo_74 ?_
            refine g_iload2 dX1_growTo_75 ?_
            refine f_cV3d (layCovers_ok (c := cdN t) (by omega) (by omega) (by omega) (by omega) (hF t (Or.inl ⟨by omega, by omega⟩)).1 (by rw [q18]; omega) (by rw [q19]; omega) (by rw [q20]; omega)) rfl (by decide) rfl oY_X1_layCovers oI_X1_layCovers lk_X1_72 rfl dX1_growTo_76 rfl (Or.inl rfl) ?_
            refine g_iinc4 dX1_growTo_79 rfl (by decide) ?_
            refine g_goto (tgt := 65) dX1_growTo_82 rfl ?_
            exact ih2 (by omega) _ _ (by push_cast; omega) (fun a ha => by rw [lcS_n (by omega)]; exact hfr2 a ha) (by have h8 := FGi_step (by omega) rfl (by omega) (by omega) hF; simpa using h8)
        exact inn 0 (by omega) _ _ rfl hfr (fun p h9 => hFG p (by omega) (by omega))
  refine g_aload0 dX1_growTo_0 ?_
  refine g_iload1 dX1_growTo_1 ?_
  refine f_newput (r := 18) (by decide) rfl (by decide) rfl rfl rfl rfl (by decide) fl_X1_15 (fun _ _ _ h => by cases h; rfl) rfl ⟨okLb_of rfl, okSb_of rfl⟩ (by omega) dX1_growTo_2 dX1_growTo_4 (by omega) (by omega) ?_
  refine g_aload0 dX1_growTo_7 ?_
  refine g_iload1 dX1_growTo_8 ?_
  refine f_newput (r := 19) (by decide) rfl (by decide) rfl rfl rfl rfl (by decide) fl_X1_19 (fun _ _ _ h => by cases h; rfl) rfl ⟨okLb_of rfl, okSb_of rfl⟩ (by omega) dX1_growTo_9 dX1_growTo_11 (by omega) (by omega) ?_
  refine g_aload0 dX1_growTo_14 ?_
  refine g_iload1 dX1_growTo_15 ?_
  refine f_newput (r := 20) (by decide) rfl (by decide) rfl rfl rfl rfl (by decide) fl_X1_22 (fun _ _ _ h => by cases h; rfl) rfl ⟨okLb_of rfl, okSb_of rfl⟩ (by omega) dX1_growTo_16 dX1_growTo_18 (by omega) (by omega) ?_
  refine g_aload0 dX1_growTo_21 ?_
  refine g_iload1 dX1_growTo_22 ?_
  refine f_newput (r := 21) (by decide) rfl (by decide) rfl rfl rfl rfl (by decide) fl_X1_25 (fun _ _ _ h => by cases h; rfl) rfl ⟨okLb_of rfl, okSb_of rfl⟩ (by omega) dX1_growTo_23 dX1_growTo_25 (by omega) (by omega) ?_
  refine g_aload0 dX1_growTo_28 ?_
  refine g_iload1 dX1_growTo_29 ?_
  refine f_newput (r := 22) (by decide) rfl (by decide) rfl rfl rfl rfl (by decide) fl_X1_28 (fun _ _ _ h => by cases h; rfl) rfl ⟨okLb_of rfl, okSb_of rfl⟩ (by omega) dX1_growTo_30 dX1_growTo_32 (by omega) (by omega) ?_
  refine g_iconst dX1_growTo_35 ?_
  refine g_istore2 dX1_growTo_36 rfl (by decide) ?_
  refine outer 0 (Nat.zero_le _) _ _ rfl (fun a ha => ?_) (fun p h7 h8 => ?_)
  · funext b
    unfold upz
    rw [if_neg (by omega), if_neg (by omega), if_neg (by omega), if_neg (by omega), if_neg (by omega)]
  · have : p = 0 := by
      have e9 : ((3 ^ 0 : Nat) : Int) = 1 := by decide
      omega
    subst this
    exact ⟨rfl, rfl, rfl⟩
end C23
