/-! Way.spreadBreath, reckonByPairs -/
section C34
variable {g : gT} {σ : sT} {l : Nat → Nat}
def spB (b c : Int) (f : Int → Int) (p : Int) : Int := if p < c then min (f p) (f (p + c) + b) else min (f p) (f (p - c) + b)
theorem spreadBreath_ok {w c : Nat} {b : Int} (hw : isWy w) (hc : c ≤ 2187) (hln : 2 * (c : Int) ≤ (ln l (w + 5) : Int)) (hb : 0 ≤ b ∧ b ≤ 9) (hf : ∀ p, 0 ≤ p → p < 2 * (c : Int) → 0 ≤ σ (w + 5) p ∧ σ (w + 5) p ≤ 1000000) :
    Fu g zX4_spreadBreath 0 0 [.ref w, iv b, iv (c : Int)] σ l (fun σ' l' => (∀ a, a ≠ w + 5 → σ' a = σ a) ∧ (∀ p, 0 ≤ p → p < 2 * (c : Int) → σ' (w + 5) p = spB b c (σ (w + 5)) p) ∧ l' = l) := by
  refine Fn.of [some (.ref w), some (iv b), some (iv (c : Int)), none, none, none] rfl (by decide) (Nat.le_of_ble_eq_true rfl) rfl ?_
  have loop : ∀ k, k ≤ c → ∀ (i : Int) (τ : sT) (a4 a5 : Option Value), i = (k : Int) → (∀ a, a ≠ w + 5 → τ a = σ a) → (∀ p, 0 ≤ p → p < 2 * (c : Int) → τ (w + 5) p = if p < k ∨ ((c : Int) ≤ p ∧ p < c + k) then spB b c (σ (w + 5)) p else σ (w + 5) p) → nw a4 = true → FW g zX4_spreadBreath 0 0 (fun q σ' l' => q = .inl none ∧ (∀ a, a ≠ w + 5 → σ' a = σ a) ∧ (∀ p, 0 ≤ p → p < 2 * (c : Int) → σ' (w + 5) p = spB b c (σ (w + 5)) p) ∧ l' = l) 2 [some (.ref w), some (iv b), some (iv (c : Int)), some (iv i), a4, a5] [] τ l := by
    refine loopUp c (fun k hk ih i τ a4 a5 hi hfr hI w4 => ?_)
    subst hi
    refine g_iload3 dX4_spreadBreath_2 ?_
    refine g_iload2 dX4_spreadBreath_3 ?_
    refine g_icmp_ge ⟨by omega, by omega⟩ ⟨by omega, by omega⟩ (tgt := 71) dX4_spreadBreath_4 rfl (fun h4 => ?_) (fun h4 => ?_)
    · refine g_return rfl dX4_spreadBreath_71 ?_
      have e9 : k = c := by omega
      refine Fu.ret ⟨hfr, fun p a0 a1 => ?_, rfl⟩
      have h7 := hI p a0 a1
      rw [if_pos (by omega)] at h7
      exact h7
    · have v0 := hI k (by omega) (by omega)
      rw [if_neg (by omega)] at v0
      have v1 := hI ((k : Int) + c) (by omega) (by omega)
      rw [if_neg (by omega)] at v1
      have b0 := hf k (by omega) (by omega)
      have b1 := hf ((k : Int) + c) (by omega) (by omega)
      refine g_aload0 dX4_spreadBreath_7 ?_
      refine f_getr (r := w + 5) hw.1 (hw.lt 0 (by decide)) rfl rfl fl_X4_28 dX4_spreadBreath_8 ?_
      refine g_iload3 dX4_spreadBreath_11 ?_
      refine f_cS2w (atI hw.k5 (hw.lt 5 (by decide)) (by omega) (by omega)) oY_X5_at oT_X5_at lk_X4_58 rfl dX4_spreadBreath_12 rfl (Or.inl rfl) ?_
      rw [v0]
      refine g_istore4 dX4_spreadBreath_15 rfl (by decide) ?_
      refine g_aload0 dX4_spreadBreath_17 ?_
      refine f_getr (r := w + 5) hw.1 (hw.lt 0 (by decide)) rfl rfl fl_X4_28 dX4_spreadBreath_18 ?_
      refine g_iload3 dX4_spreadBreath_21 ?_
      refine g_iload2 dX4_spreadBreath_22 ?_
      refine g_iadd dX4_spreadBreath_23 ?_
      refine f_cS2w (atI hw.k5 (hw.lt 5 (by decide)) (by omega) (by omega)) oY_X5_at oT_X5_at lk_X4_58 rfl dX4_spreadBreath_24 rfl (Or.inl rfl) ?_
      rw [v1]
      refine g_istore5 dX4_spreadBreath_27 rfl (by decide) ?_
      refine g_aload0 dX4_spreadBreath_29 ?_
      refine f_getr (r := w + 5) hw.1 (hw.lt 0 (by decide)) rfl rfl fl_X4_28 dX4_spreadBreath_30 ?_
      refine g_iload3 dX4_spreadBreath_33 ?_
      refine g_iload4 dX4_spreadBreath_34 ?_
      refine g_iload5 dX4_spreadBreath_36 ?_
      refine g_iload1 dX4_spreadBreath_38 ?_
      refine g_iadd dX4_spreadBreath_39 ?_
      refine g_mmin ⟨by omega, by omega⟩ ⟨by omega, by omega⟩ ma_X4_96 ⟨by decide, Nat.le_of_ble_eq_true rfl⟩ dX4_spreadBreath_40 ?_
      refine f_cS3d (putI hw.k5 (hw.lt 5 (by decide)) (by omega) (by omega)) oY_X5_put oT_X5_put lk_X4_51 rfl dX4_spreadBreath_43 rfl (Or.inl rfl) ?_
      refine g_aload0 dX4_spreadBreath_46 ?_
      refine f_getr (r := w + 5) hw.1 (hw.lt 0 (by decide)) rfl rfl fl_X4_28 dX4_spreadBreath_47 ?_
      refine g_iload3 dX4_spreadBreath_50 ?_
      refine g_iload2 dX4_spreadBreath_51 ?_
      refine g_iadd dX4_spreadBreath_52 ?_
      refine g_iload5 dX4_spreadBreath_53 ?_
      refine g_iload4 dX4_spreadBreath_55 ?_
      refine g_iload1 dX4_spreadBreath_57 ?_
      refine g_iadd dX4_spreadBreath_58 ?_
      refine g_mmin ⟨by omega, by omega⟩ ⟨by omega, by omega⟩ ma_X4_96 ⟨by decide, Nat.le_of_ble_eq_true rfl⟩ dX4_spreadBreath_59 ?_
      refine f_cS3d (putI hw.k5 (hw.lt 5 (by decide)) (by omega) (by omega)) oY_X5_put oT_X5_put lk_X4_51 rfl dX4_spreadBreath_62 rfl (Or.inl rfl) ?_
      refine g_iinc3 dX4_spreadBreath_65 rfl (by decide) ?_
      refine g_goto (tgt := 2) dX4_spreadBreath_68 rfl ?_
      refine ih (by omega) _ _ _ _ (by push_cast; omega) (fun a ha => by rw [up_n ha, up_n ha]; exact hfr a ha) (fun p a0 a1 => ?_) rfl
      by_cases c1 : p = (k : Int) + c
      · rw [c1, up_eq, if_pos (by omega)]
        unfold spB
        rw [if_neg (by omega), show (k : Int) + c - c = k from by omega]
      · by_cases c0 : p = (k : Int)
        · rw [up_ne (by omega), c0, up_eq, if_pos (by omega)]
          unfold spB
          rw [if_pos (by omega)]
        · rw [up_ne (by omega), up_ne (by omega), hI p a0 a1]
          by_cases c2 : p < (k : Int) ∨ ((c : Int) ≤ p ∧ p < c + k)
          · rw [if_pos c2, if_pos (by omega)]
          · rw [if_neg c2, if_neg (by omega)]
  refine g_iconst dX4_spreadBreath_0 ?_
  refine g_istore3 dX4_spreadBreath_1 rfl (by decide) ?_
  exact loop 0 (Nat.zero_le _) _ _ _ _ rfl (fun a ha => rfl) (fun p a0 a1 => by rw [if_neg (by omega)]) rfl
/-- the least of n and a million -/
def mnN (f : Nat → Int) : Nat → Int
  | 0 => 1000000
  | n + 1 => min (mnN f n) (f n)
theorem mnN_rng {f : Nat → Int} (n : Nat) (h : ∀ i, i < n → -1000 ≤ f i ∧ f i ≤ 1100000) : -1000 ≤ mnN f n ∧ mnN f n ≤ 1000000 := by
  induction n with
  | zero => exact ⟨by show (-1000 : Int) ≤ 1000000; decide, Int.le_refl _⟩
  | succ n ih =>
    have h1 := ih (fun i hi => h i (by omega))
    have h2 := h n (by omega)
    unfold mnN
    omega
theorem byPairs_ok {w o cA cB : Nat} {j t nt fA fB : Int} {cdA cdB : Nat → Nat} (hw : isWy w) (hs : isCh o) (hj : 0 ≤ j ∧ j < 39) (ht : R32 t) (hnt : R32 nt) (hcA : ctF (σ (o + 1)) t = (cA : Int)) (hcB : ctF (σ (o + 1)) nt = (cB : Int)) (hc4 : cA ≤ 4374 ∧ cB ≤ 4374) (hfA : atF σ l (o + 1) t = fA) (hfB : atF σ l (o + 1) nt = fB) (hfr : 0 ≤ fA ∧ fA ≤ 100000 ∧ 0 ≤ fB ∧ fB ≤ 100000) (hrw : 0 ≤ σ (w + 3) j ∧ σ (w + 3) j + cA ≤ σ (w + 3) (j + 1) ∧ σ (w + 3) (j + 1) ≤ 1000000)
    (hm : 0 ≤ σ 1 5 ∧ σ 1 5 ≤ 9) (hh : 0 ≤ σ 1 6 ∧ σ 1 6 ≤ 9) (hb : 0 ≤ σ 1 7 ∧ σ 1 7 ≤ 9)
    (hcdA : ∀ i : Nat, i < cA → fA + i < (ln l (o + 7) : Int) ∧ σ (o + 7) (fA + i) = (cdA i : Int) ∧ cdA i < 32768) (hcdB : ∀ i : Nat, i < cB → fB + i < (ln l (o + 7) : Int) ∧ σ (o + 7) (fB + i) = (cdB i : Int) ∧ cdB i < 32768)
    (hlA : σ (w + 3) j + cA ≤ (ln l (w + 4) : Int)) (hah : ∀ i : Nat, i < cB → σ (w + 3) (j + 1) + i < (ln l (w + 4) : Int) ∧ 0 ≤ σ (w + 4) (σ (w + 3) (j + 1) + i) ∧ σ (w + 4) (σ (w + 3) (j + 1) + i) ≤ 1000000) :
    Fu g zX4_reckonByPairs 0 0 [.ref w, .ref 1, .ref o, iv j, iv t, iv nt] σ l (fun σ' l' => (∀ a, a ≠ w + 4 → σ' a = σ a) ∧ (∀ i : Nat, i < cA → σ' (w + 4) (σ (w + 3) j + i) = mnN (fun z => prC (σ 1 5) (σ 1 6) (σ 1 7) (cdA i) (cdB z) + σ (w + 4) (σ (w + 3) (j + 1) + z)) cB) ∧ (∀ p, (p < σ (w + 3) j ∨ σ (w + 3) j + cA ≤ p) → σ' (w + 4) p = σ (w + 4) p) ∧ l' = l) := by
  have hwo := hw.2.1
  have hso := hs.2.1
  refine Fn.of [some (.ref w), some (.ref 1), some (.ref o), some (iv j), some (iv t), some (iv nt), none, none, none, none, none, none, none, none, none, none] rfl (by decide) (Nat.le_of_ble_eq_true rfl) rfl ?_
  have outer : ∀ k, k ≤ cA → ∀ (i : Int) (τ : sT) (a12 a13 a14 a15 : Option Value), i = (k : Int) → nw a12 = true → nw a13 = true → nw a14 = true → (∀ a, a ≠ w + 4 → τ a = σ a) → (∀ i : Nat, i < k → τ (w + 4) (σ (w + 3) j + i) = mnN (fun z => prC (σ 1 5) (σ 1 6) (σ 1 7) (cdA i) (cdB z) + σ (w + 4) (σ (w + 3) (j + 1) + z)) cB) → (∀ p, (p < σ (w + 3) j ∨ σ (w + 3) j + k ≤ p) → τ (w + 4) p = σ (w + 4) p) → FW g zX4_reckonByPairs 0 0 (fun q σ' l' => q = .inl none ∧ (∀ a, a ≠ w + 4 → σ' a = σ a) ∧ (∀ i : Nat, i < cA → σ' (w + 4) (σ (w + 3) j + i) = mnN (fun z => prC (σ 1 5) (σ 1 6) (σ 1 7) (cdA i) (cdB z) + σ (w + 4) (σ (w + 3) (j + 1) + z)) cB) ∧ (∀ p, (p < σ (w + 3) j ∨ σ (w + 3) j + cA ≤ p) → σ' (w + 4) p = σ (w + 4) p) ∧ l' = l) 47 [some (.ref w), some (.ref 1), some (.ref o), some (iv j), some (iv t), some (iv nt), some (iv fA), some (iv (cA : Int)), some (iv fB), some (iv (cB : Int)), some (iv (σ (w + 3) (j + 1))), some (iv i), a12, a13, a14, a15] [] τ l := by
    refine loopUp cA (fun k hk ih i τ a12 a13 a14 a15 hi w12 w13 w14 hfr hI hU => ?_)
    subst hi
    have e1 : τ 1 = σ 1 := hfr 1 (by omega)
    have e3 : τ (w + 3) = σ (w + 3) := hfr (w + 3) (by omega)
    have e7 : τ (o + 7) = σ (o + 7) := hfr (o + 7) (by omega)
    refine g_iload11 dX4_reckonByPairs_47 ?_
    refine g_iload7 dX4_reckonByPairs_49 ?_
    refine g_icmp_ge ⟨by omega, by omega⟩ ⟨by omega, by omega⟩ (tgt := 156) dX4_reckonByPairs_51 rfl (fun h51 => ?_) (fun h51 => ?_)
    · refine g_return rfl dX4_reckonByPairs_156 ?_
      have ek : k = cA := by omega
      subst ek
      exact Fu.ret ⟨hfr, hI, hU, rfl⟩
    · refine g_aload2 dX4_reckonByPairs_54 ?_
      refine f_getr (r := o + 7) hs.1 (hs.lt 0 (by decide)) rfl rfl fl_X4_91 dX4_reckonByPairs_55 ?_
      refine g_iload6 dX4_reckonByPairs_58 ?_
      refine g_iload11 dX4_reckonByPairs_60 ?_
      refine g_iadd dX4_reckonByPairs_62 ?_
      refine f_cS2w (atI hs.k7 (hs.lt 7 (by decide)) (by omega) (hcdA k (by omega)).1) oY_X5_at oT_X5_at lk_X4_58 rfl dX4_reckonByPairs_63 rfl (Or.inl rfl) ?_
      rw [e7, (hcdA k (by omega)).2.1]
      refine g_istore12 dX4_reckonByPairs_66 rfl (by decide) ?_
      refine g_ldc (v := Int32.ofInt (1000000)) kc_X4_92 dX4_reckonByPairs_68 ?_
      refine g_istore13 dX4_reckonByPairs_70 rfl (by decide) ?_
      refine g_iconst dX4_reckonByPairs_72 ?_
      refine g_istore14 dX4_reckonByPairs_73 rfl (by decide) ?_
      have inn : ∀ z, z ≤ cB → ∀ (i2 le : Int) (a15 : Option Value), i2 = (z : Int) → le = mnN (fun z => prC (σ 1 5) (σ 1 6) (σ 1 7) (cdA k) (cdB z) + σ (w + 4) (σ (w + 3) (j + 1) + z)) z → FW g zX4_reckonByPairs 0 0 (fun q σ' l' => q = .inl none ∧ (∀ a, a ≠ w + 4 → σ' a = σ a) ∧ (∀ i : Nat, i < cA → σ' (w + 4) (σ (w + 3) j + i) = mnN (fun z => prC (σ 1 5) (σ 1 6) (σ 1 7) (cdA i) (cdB z) + σ (w + 4) (σ (w + 3) (j + 1) + z)) cB) ∧ (∀ p, (p < σ (w + 3) j ∨ σ (w + 3) j + cA ≤ p) → σ' (w + 4) p = σ (w + 4) p) ∧ l' = l) 75 [some (.ref w), some (.ref 1), some (.ref o), some (iv j), some (iv t), some (iv nt), some (iv fA), some (iv (cA : Int)), some (iv fB), some (iv (cB : Int)), some (iv (σ (w + 3) (j + 1))), some (iv (k : Int)), some (iv (cdA k : Int)), some (iv le), some (iv i2), a15] [] τ l := by
        refine loopUp cB (fun z hz ih2 i2 le a15 hi2 hle => ?_)
        subst hi2
        have hpf : ∀ q, q < cB → -1000 ≤ prC (σ 1 5) (σ 1 6) (σ 1 7) (cdA k) (cdB q) + σ (w + 4) (σ (w + 3) (j + 1) + q) ∧ prC (σ 1 5) (σ 1 6) (σ 1 7) (cdA k) (cdB q) + σ (w + 4) (σ (w + 3) (j + 1) + q) ≤ 1100000 := fun q hq => by
          have a1 := hah q hq
          have a2 := prC_rng (c := cdA k) (d := cdB q) hm hh hb
          omega
        have hmr := mnN_rng (f := fun z => prC (σ 1 5) (σ 1 6) (σ 1 7) (cdA k) (cdB z) + σ (w + 4) (σ (w + 3) (j + 1) + z)) z (fun q hq => hpf q (by omega))
        refine g_iload14 dX4_reckonByPairs_75 ?_
        refine g_iload9 dX4_reckonByPairs_77 ?_
        refine g_icmp_ge ⟨by omega, by omega⟩ ⟨by omega, by omega⟩ (tgt := 130) dX4_reckonByPairs_79 rfl (fun h79 => ?_) (fun h79 => ?_)
        · refine g_aload0 dX4_reckonByPairs_130 ?_
          refine f_getr (r := w + 4) hw.1 (hw.lt 0 (by decide)) rfl rfl fl_X4_25 dX4_reckonByPairs_131 ?_
          refine g_aload0 dX4_reckonByPairs_134 ?_
          refine f_getr (r := w + 3) hw.1 (hw.lt 0 (by decide)) rfl rfl fl_X4_22 dX4_reckonByPairs_135 ?_
          refine g_iload3 dX4_reckonByPairs_138 ?_
          refine f_cS2w (atI hw.k3 (hw.lt 3 (by decide)) (by omega) (by rw [hw.n3]; omega)) oY_X5_at oT_X5_at lk_X4_58 rfl dX4_reckonByPairs_139 rfl (Or.inl rfl) ?_
          rw [e3]
          refine g_iload11 dX4_reckonByPairs_142 ?_
          refine g_iadd dX4_reckonByPairs_144 ?_
          refine g_iload13 dX4_reckonByPairs_145 ?_
          refine f_cS3d (putI hw.k4 (hw.lt 4 (by decide)) (by omega) (by omega)) oY_X5_put oT_X5_put lk_X4_51 rfl dX4_reckonByPairs_147 rfl (Or.inl rfl) ?_
          refine g_iinc11 dX4_reckonByPairs_150 rfl (by decide) ?_
          refine g_goto (tgt := 47) dX4_reckonByPairs_153 rfl ?_
          have ez : z = cB := by omega
          subst ez
          refine ih (by omega) _ _ _ _ _ _ (by push_cast; omega) rfl rfl rfl (fun a ha => by rw [up_n ha]; exact hfr a ha) (fun i hi => ?_) (fun p hp => ?_)
          · by_cases c0 : i = k
            · rw [c0, up_eq]
              exact hle
            · rw [up_ne (by omega)]
              exact hI i (by omega)
          · rw [up_ne (by omega)]
            exact hU p (by omega)
        · have hpz := hpf z (by omega)
          refine g_aload1 dX4_reckonByPairs_82 ?_
          refine g_iload12 dX4_reckonByPairs_83 ?_
          refine g_aload2 dX4_reckonByPairs_85 ?_
          refine f_getr (r := o + 7) hs.1 (hs.lt 0 (by decide)) rfl rfl fl_X4_91 dX4_reckonByPairs_86 ?_
          refine g_iload8 dX4_reckonByPairs_89 ?_
          refine g_iload14 dX4_reckonByPairs_91 ?_
          refine g_iadd dX4_reckonByPairs_93 ?_
          refine f_cS2w (atI hs.k7 (hs.lt 7 (by decide)) (by omega) (hcdB z (by omega)).1) oY_X5_at oT_X5_at lk_X4_58 rfl dX4_reckonByPairs_94 rfl (Or.inl rfl) ?_
          rw [e7, (hcdB z (by omega)).2.1]
          refine f_cV2w (priceOf_ok isSt1 (hcdA k (by omega)).2.2 (hcdB z (by omega)).2.2) rfl (by decide) rfl oY_X3_priceOf oI_X3_priceOf lk_X4_93 rfl dX4_reckonByPairs_97 rfl (Or.inl rfl) ?_
          rw [e1]
          refine g_aload0 dX4_reckonByPairs_100 ?_
          refine f_getr (r := w + 4) hw.1 (hw.lt 0 (by decide)) rfl rfl fl_X4_25 dX4_reckonByPairs_101 ?_
          refine g_iload10 dX4_reckonByPairs_104 ?_
          refine g_iload14 dX4_reckonByPairs_106 ?_
          refine g_iadd dX4_reckonByPairs_108 ?_
          refine f_cS2w (atI hw.k4 (hw.lt 4 (by decide)) (by omega) (hah z (by omega)).1) oY_X5_at oT_X5_at lk_X4_58 rfl dX4_reckonByPairs_109 rfl (Or.inl rfl) ?_
          rw [hU _ (by omega)]
          refine g_iadd dX4_reckonByPairs_112 ?_
          refine g_istore15 dX4_reckonByPairs_113 rfl (by decide) ?_
          refine g_iload13 dX4_reckonByPairs_115 ?_
          refine g_iload15 dX4_reckonByPairs_117 ?_
          refine g_mmin ⟨by omega, by omega⟩ ⟨by omega, by omega⟩ ma_X4_96 ⟨by decide, Nat.le_of_ble_eq_true rfl⟩ dX4_reckonByPairs_119 ?_
          refine g_istore13 dX4_reckonByPairs_122 rfl (by decide) ?_
          refine g_iinc14 dX4_reckonByPairs_124 rfl (by decide) ?_
          refine g_goto (tgt := 75) dX4_reckonByPairs_127 rfl ?_
          exact ih2 (by omega) _ _ _ (by push_cast; omega) (by rw [mnN, hle])
      exact inn 0 (Nat.zero_le _) _ _ _ rfl rfl
  refine g_aload2 dX4_reckonByPairs_0 ?_
  refine g_iload4 dX4_reckonByPairs_1 ?_
  refine f_cV1w (firstOfA_ok hs ht) hs.1 (hs.lt 0 (by decide)) rfl oY_X0_firstOf oI_X0_firstOf lk_X4_88 rfl dX4_reckonByPairs_3 rfl (Or.inl rfl) ?_
  rw [hfA]
  refine g_istore6 dX4_reckonByPairs_6 rfl (by decide) ?_
  refine g_aload2 dX4_reckonByPairs_8 ?_
  refine g_iload4 dX4_reckonByPairs_9 ?_
  refine f_cV1w (countOf_ok hs ht) hs.1 (hs.lt 0 (by decide)) rfl oY_X0_countOf oI_X0_countOf lk_X4_62 rfl dX4_reckonByPairs_11 rfl (Or.inl rfl) ?_
  rw [hcA]
  refine g_istore7 dX4_reckonByPairs_14 rfl (by decide) ?_
  refine g_aload2 dX4_reckonByPairs_16 ?_
  refine g_iload5 dX4_reckonByPairs_17 ?_
  refine f_cV1w (firstOfA_ok hs hnt) hs.1 (hs.lt 0 (by decide)) rfl oY_X0_firstOf oI_X0_firstOf lk_X4_88 rfl dX4_reckonByPairs_19 rfl (Or.inl rfl) ?_
  rw [hfB]
  refine g_istore8 dX4_reckonByPairs_22 rfl (by decide) ?_
  refine g_aload2 dX4_reckonByPairs_24 ?_
  refine g_iload5 dX4_reckonByPairs_25 ?_
  refine f_cV1w (countOf_ok hs hnt) hs.1 (hs.lt 0 (by decide)) rfl oY_X0_countOf oI_X0_countOf lk_X4_62 rfl dX4_reckonByPairs_27 rfl (Or.inl rfl) ?_
  rw [hcB]
  refine g_istore9 dX4_reckonByPairs_30 rfl (by decide) ?_
  refine g_aload0 dX4_reckonByPairs_32 ?_
  refine f_getr (r := w + 3) hw.1 (hw.lt 0 (by decide)) rfl rfl fl_X4_22 dX4_reckonByPairs_33 ?_
  refine g_iload3 dX4_reckonByPairs_36 ?_
  refine g_iconst dX4_reckonByPairs_37 ?_
  refine g_iadd dX4_reckonByPairs_38 ?_
  refine f_cS2w (atI hw.k3 (hw.lt 3 (by decide)) (by omega) (by rw [hw.n3]; omega)) oY_X5_at oT_X5_at lk_X4_58 rfl dX4_reckonByPairs_39 rfl (Or.inl rfl) ?_
  refine g_istore10 dX4_reckonByPairs_42 rfl (by decide) ?_
  refine g_iconst dX4_reckonByPairs_44 ?_
  refine g_istore11 dX4_reckonByPairs_45 rfl (by decide) ?_
  exact outer 0 (Nat.zero_le _) _ _ _ _ _ _ rfl rfl rfl rfl (fun a ha => rfl) (fun i hi => by omega) (fun p hp => rfl)
end C34
