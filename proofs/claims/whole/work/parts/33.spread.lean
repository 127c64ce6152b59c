/-! Way.spreadHole, spreadBreath -/
section C33
variable {g : gT} {σ : sT} {l : Nat → Nat}
/-- the least by what one hole costs -/
def spH (m h Q : Int) (f : Int → Int) (p : Int) : Int :=
  if p / Q % 3 = 0 then min (f p) (min (f (p + Q) + h) (f (p + 2 * Q) + m)) else if p / Q % 3 = 1 then min (f p) (min (f (p - Q)) (f (p + Q)) + h) else min (f p) (min (f (p - Q) + h) (f (p - 2 * Q) + m))
theorem dgQ {Q t d v : Int} (hQ : 0 < Q) (hv : 0 ≤ v ∧ v < Q) (hd : 0 ≤ d ∧ d ≤ 2) : (Q * (3 * t) + d * Q + v) / Q % 3 = d := by
  have e1 : Q * (3 * t) + d * Q + v = v + Q * (3 * t + d) := by rw [Int.mul_add, Int.mul_comm Q d]; omega
  rw [e1, Int.add_mul_ediv_left _ _ (by omega), Int.ediv_eq_zero_of_lt hv.1 hv.2]
  omega
theorem spH_0 {m h Q t v : Int} {f : Int → Int} (hQ : 0 < Q) (hv : 0 ≤ v ∧ v < Q) : spH m h Q f (Q * (3 * t) + v) = min (f (Q * (3 * t) + v)) (min (f (Q * (3 * t) + v + Q) + h) (f (Q * (3 * t) + v + 2 * Q) + m)) := by
  have e := dgQ (d := 0) (t := t) hQ hv (by omega)
  rw [Int.zero_mul, Int.add_zero] at e
  unfold spH
  rw [if_pos e]
theorem spH_1 {m h Q t v : Int} {f : Int → Int} (hQ : 0 < Q) (hv : 0 ≤ v ∧ v < Q) : spH m h Q f (Q * (3 * t) + v + Q) = min (f (Q * (3 * t) + v + Q)) (min (f (Q * (3 * t) + v)) (f (Q * (3 * t) + v + 2 * Q)) + h) := by
  have e := dgQ (d := 1) (t := t) hQ hv (by omega)
  rw [show Q * (3 * t) + 1 * Q + v = Q * (3 * t) + v + Q from by omega] at e
  unfold spH
  rw [if_neg (by omega), if_pos e, show Q * (3 * t) + v + Q - Q = Q * (3 * t) + v from by omega, show Q * (3 * t) + v + Q + Q = Q * (3 * t) + v + 2 * Q from by omega]
theorem spH_2 {m h Q t v : Int} {f : Int → Int} (hQ : 0 < Q) (hv : 0 ≤ v ∧ v < Q) : spH m h Q f (Q * (3 * t) + v + 2 * Q) = min (f (Q * (3 * t) + v + 2 * Q)) (min (f (Q * (3 * t) + v + Q) + h) (f (Q * (3 * t) + v) + m)) := by
  have e := dgQ (d := 2) (t := t) hQ hv (by omega)
  rw [show Q * (3 * t) + 2 * Q + v = Q * (3 * t) + v + 2 * Q from by omega] at e
  unfold spH
  rw [if_neg (by omega), if_neg (by omega), show Q * (3 * t) + v + 2 * Q - Q = Q * (3 * t) + v + Q from by omega, show Q * (3 * t) + v + 2 * Q - 2 * Q = Q * (3 * t) + v from by omega]
/-- which places of the block at B are done -/
def inBl (B Q u p : Int) : Prop := (B ≤ p ∧ p < B + u) ∨ (B + Q ≤ p ∧ p < B + Q + u) ∨ (B + 2 * Q ≤ p ∧ p < B + 2 * Q + u)
theorem spread_in {k n w : Nat} {Q N t hl : Int} {Ψ : mO → sT → (Nat → Nat) → Prop} {f : Int → Int} (hw : isWy w) (hQ : 0 < Q) (hB0 : 0 ≤ Q * (3 * t)) (hBN : Q * (3 * t) + 3 * Q ≤ N) (hN : N ≤ 4374) (hln : N ≤ (ln l (w + 5) : Int)) (hm : 0 ≤ σ 1 5 ∧ σ 1 5 ≤ 9) (hh : 0 ≤ σ 1 6 ∧ σ 1 6 ≤ 9) (hf : ∀ p, 0 ≤ p → p < N → 0 ≤ f p ∧ f p ≤ 1000000)
    (kont : ∀ (τ : sT) i a6 a7 a8 a9, (∀ a, a ≠ w + 5 → τ a = σ a) → (∀ p, 0 ≤ p → p < N → τ (w + 5) p = if p < Q * (3 * t) + 3 * Q then spH (σ 1 5) (σ 1 6) Q f p else f p) → FW g zX4_spreadHole k n Ψ 178 [some (.ref w), some (.ref 1), some (iv hl), some (iv N), some (iv Q), some (iv (Q * (3 * t))), some (iv i), a6, a7, a8, a9] [] τ l) :
    ∀ u : Nat, u ≤ Q.toNat → ∀ (i : Int) (τ : sT) (a6 a7 a8 a9 : Option Value), i = Q * (3 * t) + u → (∀ a, a ≠ w + 5 → τ a = σ a) → (∀ p, 0 ≤ p → p < N → p < Q * (3 * t) ∨ inBl (Q * (3 * t)) Q u p → τ (w + 5) p = spH (σ 1 5) (σ 1 6) Q f p) → (∀ p, 0 ≤ p → p < N → ¬ (p < Q * (3 * t) ∨ inBl (Q * (3 * t)) Q u p) → τ (w + 5) p = f p) → nw a6 = true → nw a7 = true → nw a8 = true → FW g zX4_spreadHole k n Ψ 26 [some (.ref w), some (.ref 1), some (iv hl), some (iv N), some (iv Q), some (iv (Q * (3 * t))), some (iv i), a6, a7, a8, a9] [] τ l := by
  have hwo := hw.2.1
  refine loopUp _ (fun u hu ih i τ a6 a7 a8 a9 hi hfr h1 h2 w6 w7 w8 => ?_)
  have e1 : τ 1 = σ 1 := hfr 1 (by omega)
  have q0 := @spH_0 (σ 1 5) (σ 1 6) Q t u f hQ
  have q1 := @spH_1 (σ 1 5) (σ 1 6) Q t u f hQ
  have q2 := @spH_2 (σ 1 5) (σ 1 6) Q t u f hQ
  generalize Q * (3 * t) = B at *
  subst hi
  refine g_iload6 dX4_spreadHole_26 ?_
  refine g_iload5 dX4_spreadHole_28 ?_
  refine g_iload4 dX4_spreadHole_30 ?_
  refine g_iadd dX4_spreadHole_32 ?_
  refine g_icmp_ge ⟨by omega, by omega⟩ ⟨by omega, by omega⟩ (tgt := 178) dX4_spreadHole_33 rfl (fun h33 => ?_) (fun h33 => ?_)
  · refine kont τ _ a6 a7 a8 a9 hfr (fun p a0 a1 => ?_)
    have e9 : (u : Int) = Q := by omega
    by_cases hp : p < B + 3 * Q
    · rw [if_pos hp]
      exact h1 p a0 a1 (by unfold inBl; omega)
    · rw [if_neg hp]
      exact h2 p a0 a1 (by unfold inBl; omega)
  · have hu2 : (u : Int) < Q := by omega
    have v0 := h2 (B + u) (by omega) (by omega) (by unfold inBl; omega)
    have v1 := h2 (B + u + Q) (by omega) (by omega) (by unfold inBl; omega)
    have v2 := h2 (B + u + 2 * Q) (by omega) (by omega) (by unfold inBl; omega)
    have b0 := hf (B + u) (by omega) (by omega)
    have b1 := hf (B + u + Q) (by omega) (by omega)
    have b2 := hf (B + u + 2 * Q) (by omega) (by omega)
    have p0 := q0 ⟨by omega, hu2⟩
    have p1 := q1 ⟨by omega, hu2⟩
    have p2 := q2 ⟨by omega, hu2⟩
    refine g_aload0 dX4_spreadHole_36 ?_
    refine f_getr (r := w + 5) hw.1 (hw.lt 0 (by decide)) rfl rfl fl_X4_28 dX4_spreadHole_37 ?_
    refine g_iload6 dX4_spreadHole_40 ?_
    refine f_cS2w (atI hw.k5 (hw.lt 5 (by decide)) (by omega) (by omega)) oY_X5_at oT_X5_at lk_X4_58 rfl dX4_spreadHole_42 rfl (Or.inl rfl) ?_
    rw [v0]
    refine g_istore7 dX4_spreadHole_45 rfl (by decide) ?_
    refine g_aload0 dX4_spreadHole_47 ?_
    refine f_getr (r := w + 5) hw.1 (hw.lt 0 (by decide)) rfl rfl fl_X4_28 dX4_spreadHole_48 ?_
    refine g_iload6 dX4_spreadHole_51 ?_
    refine g_iload4 dX4_spreadHole_53 ?_
    refine g_iadd dX4_spreadHole_55 ?_
    refine f_cS2w (atI hw.k5 (hw.lt 5 (by decide)) (by omega) (by omega)) oY_X5_at oT_X5_at lk_X4_58 rfl dX4_spreadHole_56 rfl (Or.inl rfl) ?_
    rw [v1]
    refine g_istore8 dX4_spreadHole_59 rfl (by decide) ?_
    refine g_aload0 dX4_spreadHole_61 ?_
    refine f_getr (r := w + 5) hw.1 (hw.lt 0 (by decide)) rfl rfl fl_X4_28 dX4_spreadHole_62 ?_
    refine g_iload6 dX4_spreadHole_65 ?_
    refine g_iconst dX4_spreadHole_67 ?_
    refine g_iload4 dX4_spreadHole_68 ?_
    refine g_imul dX4_spreadHole_70 ?_
    refine g_iadd dX4_spreadHole_71 ?_
    refine f_cS2w (atI hw.k5 (hw.lt 5 (by decide)) (by omega) (by omega)) oY_X5_at oT_X5_at lk_X4_58 rfl dX4_spreadHole_72 rfl (Or.inl rfl) ?_
    rw [v2]
    refine g_istore9 dX4_spreadHole_75 rfl (by decide) ?_
    refine g_iload8 dX4_spreadHole_77 ?_
    refine g_aload1 dX4_spreadHole_79 ?_
    refine f_geti (J := 6) rfl (by decide) rfl rfl fl_X4_119 dX4_spreadHole_80 ?_
    rw [e1]
    refine g_iadd dX4_spreadHole_83 ?_
    refine g_istore10 dX4_spreadHole_84 rfl (by decide) ?_
    refine g_aload0 dX4_spreadHole_86 ?_
    refine f_getr (r := w + 5) hw.1 (hw.lt 0 (by decide)) rfl rfl fl_X4_28 dX4_spreadHole_87 ?_
    refine g_iload6 dX4_spreadHole_90 ?_
    refine g_iload7 dX4_spreadHole_92 ?_
    refine g_iload10 dX4_spreadHole_94 ?_
    refine g_iload9 dX4_spreadHole_96 ?_
    refine g_aload1 dX4_spreadHole_98 ?_
    refine f_geti (J := 5) rfl (by decide) rfl rfl fl_X4_122 dX4_spreadHole_99 ?_
    rw [e1]
    refine g_iadd dX4_spreadHole_102 ?_
    refine g_mmin ⟨by omega, by omega⟩ ⟨by omega, by omega⟩ ma_X4_96 ⟨by decide, Nat.le_of_ble_eq_true rfl⟩ dX4_spreadHole_103 ?_
    refine g_mmin ⟨by omega, by omega⟩ ⟨by omega, by omega⟩ ma_X4_96 ⟨by decide, Nat.le_of_ble_eq_true rfl⟩ dX4_spreadHole_106 ?_
    refine f_cS3d (putI hw.k5 (hw.lt 5 (by decide)) (by omega) (by omega)) oY_X5_put oT_X5_put lk_X4_51 rfl dX4_spreadHole_109 rfl (Or.inl rfl) ?_
    refine g_aload0 dX4_spreadHole_112 ?_
    refine f_getr (r := w + 5) hw.1 (hw.lt 0 (by decide)) rfl rfl fl_X4_28 dX4_spreadHole_113 ?_
    refine g_iload6 dX4_spreadHole_116 ?_
    refine g_iload4 dX4_spreadHole_118 ?_
    refine g_iadd dX4_spreadHole_120 ?_
    refine g_iload8 dX4_spreadHole_121 ?_
    refine g_iload7 dX4_spreadHole_123 ?_
    refine g_iload9 dX4_spreadHole_125 ?_
    refine g_mmin ⟨by omega, by omega⟩ ⟨by omega, by omega⟩ ma_X4_96 ⟨by decide, Nat.le_of_ble_eq_true rfl⟩ dX4_spreadHole_127 ?_
    refine g_aload1 dX4_spreadHole_130 ?_
    refine f_geti (J := 6) rfl (by decide) rfl rfl fl_X4_119 dX4_spreadHole_131 ?_
    rw [up_n (by omega), e1]
    refine g_iadd dX4_spreadHole_134 ?_
    refine g_mmin ⟨by omega, by omega⟩ ⟨by omega, by omega⟩ ma_X4_96 ⟨by decide, Nat.le_of_ble_eq_true rfl⟩ dX4_spreadHole_135 ?_
    refine f_cS3d (putI hw.k5 (hw.lt 5 (by decide)) (by omega) (by omega)) oY_X5_put oT_X5_put lk_X4_51 rfl dX4_spreadHole_138 rfl (Or.inl rfl) ?_
    refine g_aload0 dX4_spreadHole_141 ?_
    refine f_getr (r := w + 5) hw.1 (hw.lt 0 (by decide)) rfl rfl fl_X4_28 dX4_spreadHole_142 ?_
    refine g_iload6 dX4_spreadHole_145 ?_
    refine g_iconst dX4_spreadHole_147 ?_
    refine g_iload4 dX4_spreadHole_148 ?_
    refine g_imul dX4_spreadHole_150 ?_
    refine g_iadd dX4_spreadHole_151 ?_
    refine g_iload9 dX4_spreadHole_152 ?_
    refine g_iload10 dX4_spreadHole_154 ?_
    refine g_iload7 dX4_spreadHole_156 ?_
    refine g_aload1 dX4_spreadHole_158 ?_
    refine f_geti (J := 5) rfl (by decide) rfl rfl fl_X4_122 dX4_spreadHole_159 ?_
    rw [up_n (by omega), up_n (by omega), e1]
    refine g_iadd dX4_spreadHole_162 ?_
    refine g_mmin ⟨by omega, by omega⟩ ⟨by omega, by omega⟩ ma_X4_96 ⟨by decide, Nat.le_of_ble_eq_true rfl⟩ dX4_spreadHole_163 ?_
    refine g_mmin ⟨by omega, by omega⟩ ⟨by omega, by omega⟩ ma_X4_96 ⟨by decide, Nat.le_of_ble_eq_true rfl⟩ dX4_spreadHole_166 ?_
    refine f_cS3d (putI hw.k5 (hw.lt 5 (by decide)) (by omega) (by omega)) oY_X5_put oT_X5_put lk_X4_51 rfl dX4_spreadHole_169 rfl (Or.inl rfl) ?_
    refine g_iinc6 dX4_spreadHole_172 rfl (by decide) ?_
    refine g_goto (tgt := 26) dX4_spreadHole_175 rfl ?_
    refine ih (by omega) _ _ _ _ _ _ (by push_cast; omega) (fun a ha => by rw [up_n ha, up_n ha, up_n ha]; exact hfr a ha) (fun p a0 a1 hp => ?_) (fun p a0 a1 hp => ?_) rfl rfl rfl
    · by_cases c2 : p = B + u + 2 * Q
      · rw [c2, up_eq]
        exact p2.symm
      · by_cases c1 : p = B + u + Q
        · rw [up_ne (by omega), c1, up_eq]
          exact p1.symm
        · by_cases c0 : p = B + u
          · rw [up_ne (by omega), up_ne (by omega), c0, up_eq]
            exact p0.symm
          · rw [up_ne (by omega), up_ne (by omega), up_ne (by omega)]
            exact h1 p a0 a1 (by unfold inBl at *; omega)
    · rw [up_ne (by unfold inBl at hp; omega), up_ne (by unfold inBl at hp; omega), up_ne (by unfold inBl at hp; omega)]
      exact h2 p a0 a1 (by unfold inBl at *; omega)
theorem spreadHole_ok {w M : Nat} {Q N hl : Int} (hw : isWy w) (hl7 : 0 ≤ hl ∧ hl < 8) (hQ : 0 < Q) (hQ9 : Q ≤ 2187) (hpw : pw hl = Q) (hNM : N = Q * (3 * M)) (hN : N ≤ 4374) (hln : N ≤ (ln l (w + 5) : Int)) (hm : 0 ≤ σ 1 5 ∧ σ 1 5 ≤ 9) (hh : 0 ≤ σ 1 6 ∧ σ 1 6 ≤ 9) (hf : ∀ p, 0 ≤ p → p < N → 0 ≤ σ (w + 5) p ∧ σ (w + 5) p ≤ 1000000) :
    Fu g zX4_spreadHole 0 0 [.ref w, .ref 1, iv hl, iv N] σ l (fun σ' l' => (∀ a, a ≠ w + 5 → σ' a = σ a) ∧ (∀ p, 0 ≤ p → p < N → σ' (w + 5) p = spH (σ 1 5) (σ 1 6) Q (σ (w + 5)) p) ∧ l' = l) := by
  refine Fn.of [some (.ref w), some (.ref 1), some (iv hl), some (iv N), none, none, none, none, none, none, none] rfl (by decide) (Nat.le_of_ble_eq_true rfl) rfl ?_
  have outer : ∀ t : Nat, t ≤ M → ∀ (i : Int) (τ : sT), i = Q * (3 * (t : Int)) → (∀ a, a ≠ w + 5 → τ a = σ a) → (∀ p, 0 ≤ p → p < N → τ (w + 5) p = if p < Q * (3 * (t : Int)) then spH (σ 1 5) (σ 1 6) Q (σ (w + 5)) p else σ (w + 5) p) → FW g zX4_spreadHole 0 0 (fun q σ' l' => q = .inl none ∧ (∀ a, a ≠ w + 5 → σ' a = σ a) ∧ (∀ p, 0 ≤ p → p < N → σ' (w + 5) p = spH (σ 1 5) (σ 1 6) Q (σ (w + 5)) p) ∧ l' = l) 16 [some (.ref w), some (.ref 1), some (iv hl), some (iv N), some (iv Q), some (iv i), none, none, none, none, none] [] τ l := by
    refine loopUp M (fun t ht ih i τ hi hfr hI => ?_)
    have hB0 : 0 ≤ Q * (3 * (t : Int)) := Int.mul_nonneg (by omega) (by omega)
    have hB1 : Q * (3 * (t : Int)) ≤ N := by rw [hNM]; exact Int.mul_le_mul_of_nonneg_left (by omega) (by omega)
    subst hi
    refine g_iload5 dX4_spreadHole_16 ?_
    refine g_iload3 dX4_spreadHole_18 ?_
    refine g_icmp_ge ⟨by omega, by omega⟩ ⟨by omega, by omega⟩ (tgt := 190) dX4_spreadHole_19 rfl (fun h19 => ?_) (fun h19 => ?_)
    · refine g_return rfl dX4_spreadHole_190 ?_
      have e9 : t = M := by
        apply Nat.le_antisymm ht
        apply Nat.le_of_not_lt
        intro h9
        have h8 := Int.mul_lt_mul_of_pos_left (show (3 * (t : Int)) < 3 * (M : Int) by omega) hQ
        omega
      refine Fu.ret ⟨hfr, fun p a0 a1 => ?_, rfl⟩
      have h7 := hI p a0 a1
      rw [if_pos (by rw [e9, ← hNM]; exact a1)] at h7
      exact h7
    · refine g_iload5 dX4_spreadHole_22 ?_
      refine g_istore6 dX4_spreadHole_24 rfl (by decide) ?_
      have ht2 : t < M := by
        apply Nat.lt_of_le_of_ne ht
        intro e9
        rw [e9, ← hNM] at h19
        omega
      have hB3 : Q * (3 * (t : Int)) + 3 * Q ≤ N := by
        have h9 := Int.mul_le_mul_of_nonneg_left (show (3 * (t : Int) + 3) ≤ 3 * (M : Int) by omega) (show 0 ≤ Q by omega)
        rw [Int.mul_add, ← hNM] at h9
        omega
      refine spread_in (σ := σ) (f := σ (w + 5)) hw hQ hB0 hB3 hN hln hm hh hf (fun τ2 i2 a6 a7 a8 a9 f2 g2 => ?_) 0 (Nat.zero_le _) _ _ _ _ _ _ (by simp) hfr (fun p a0 a1 hp => ?_) (fun p a0 a1 hp => ?_) rfl rfl rfl
      · refine g_iload5 dX4_spreadHole_178 ?_
        refine g_iconst dX4_spreadHole_180 ?_
        refine g_iload4 dX4_spreadHole_181 ?_
        refine g_imul dX4_spreadHole_183 ?_
        refine g_iadd dX4_spreadHole_184 ?_
        refine g_istore5 dX4_spreadHole_185 rfl (by decide) ?_
        refine g_goto (tgt := 16) dX4_spreadHole_187 rfl ?_
        refine g_forget 6 ?_
        refine g_forget 7 ?_
        refine g_forget 8 ?_
        refine g_forget 9 ?_
        refine g_forget 10 ?_
        have e8 : Q * (3 * ((t + 1 : Nat) : Int)) = Q * (3 * (t : Int)) + 3 * Q := by push_cast; rw [Int.mul_add 3, Int.mul_add Q]; omega
        exact ih ht2 _ _ e8.symm f2 (fun p a0 a1 => by rw [e8]; exact g2 p a0 a1)
      · have h7 := hI p a0 a1
        rw [if_pos (by unfold inBl at hp; omega)] at h7
        exact h7
      · have h7 := hI p a0 a1
        rw [if_neg (by omega)] at h7
        exact h7
  refine g_iconst dX4_spreadHole_0 ?_
  refine g_gets lf_X4_116 dX4_spreadHole_1 ?_
  refine g_iload2 dX4_spreadHole_4 ?_
  refine f_cS2w (atP_ok ⟨by omega, by omega⟩) oY_X5_at oT_X5_at lk_X4_58 rfl dX4_spreadHole_5 rfl (Or.inl rfl) ?_
  rw [hpw]
  refine g_mmax ⟨by omega, by omega⟩ ⟨by omega, by omega⟩ ma_X4_68 ⟨by decide, Nat.le_of_ble_eq_true rfl⟩ dX4_spreadHole_8 ?_
  rw [Int.max_eq_right (by omega)]
  refine g_istore4 dX4_spreadHole_11 rfl (by decide) ?_
  refine g_iconst dX4_spreadHole_13 ?_
  refine g_istore5 dX4_spreadHole_14 rfl (by decide) ?_
  exact outer 0 (Nat.zero_le _) _ _ (by simp) (fun a ha => rfl) (fun p a0 a1 => by rw [if_neg (by simp; omega)])
end C33
