/-! Way.reckonByHoles, its row of all plays -/
section C36
variable {g : gT} {σ : sT} {l : Nat → Nat}
/-- the row of all plays, in the end -/
def hoF (m h b : Int) (H : Nat) (plB ahB : Nat → Int) (cB : Nat) : Int → Int := spB b ((3 ^ H : Nat) : Int) (sps m h (f0N plB ahB cB) H)
theorem byHoles_body {k n w o H cA cB : Nat} {j t nt fA fB : Int} {plA plB ahB : Nat → Int} {Ψ : mO → sT → (Nat → Nat) → Prop} (hw : isWy w) (hs : isCh o) (hH : σ 1 8 = (H : Int)) (hH7 : H ≤ 7) (hj : 0 ≤ j ∧ j < 39) (ht : R32 t) (hnt : R32 nt) (hcA : ctF (σ (o + 1)) t = (cA : Int)) (hcB : ctF (σ (o + 1)) nt = (cB : Int)) (hc4 : cA ≤ 4374 ∧ cB ≤ 4374) (hfA : atF σ l (o + 1) t = fA) (hfB : atF σ l (o + 1) nt = fB) (hfr0 : 0 ≤ fA ∧ fA ≤ 100000 ∧ 0 ≤ fB ∧ fB ≤ 100000) (hrw : 0 ≤ σ (w + 3) j ∧ σ (w + 3) j + cA ≤ 1000000 ∧ 0 ≤ σ (w + 3) (j + 1) ∧ σ (w + 3) (j + 1) ≤ 1000000)
    (hm : 0 ≤ σ 1 5 ∧ σ 1 5 ≤ 9) (hh : 0 ≤ σ 1 6 ∧ σ 1 6 ≤ 9) (hb : 0 ≤ σ 1 7 ∧ σ 1 7 ≤ 9)
    (hplA : ∀ i : Nat, i < cA → fA + i < (ln l (o + 6) : Int) ∧ σ (o + 6) (fA + i) = plA i ∧ 0 ≤ plA i ∧ plA i < ((2 * 3 ^ H : Nat) : Int)) (hplB : ∀ i : Nat, i < cB → fB + i < (ln l (o + 6) : Int) ∧ σ (o + 6) (fB + i) = plB i ∧ 0 ≤ plB i ∧ plB i < ((2 * 3 ^ H : Nat) : Int)) (hlA : σ (w + 3) j + cA ≤ (ln l (w + 4) : Int)) (hlN : ((2 * 3 ^ H : Nat) : Int) ≤ (ln l (w + 5) : Int)) (hah : ∀ i : Nat, i < cB → σ (w + 3) (j + 1) + i < (ln l (w + 4) : Int) ∧ σ (w + 4) (σ (w + 3) (j + 1) + i) = ahB i ∧ 0 ≤ ahB i ∧ ahB i ≤ 1000000)
    (hΨ : ∀ τ : sT, (∀ a, a ≠ w + 4 → a ≠ w + 5 → τ a = σ a) → (∀ i : Nat, i < cA → τ (w + 4) (σ (w + 3) j + i) = hoF (σ 1 5) (σ 1 6) (σ 1 7) H plB ahB cB (plA i)) → (∀ p, (p < σ (w + 3) j ∨ σ (w + 3) j + cA ≤ p) → τ (w + 4) p = σ (w + 4) p) → Ψ (.inl none) τ l) :
    FW g zX4_reckonByHoles k n Ψ 24 [some (.ref w), some (.ref 1), some (.ref o), some (iv j), some (iv t), some (iv nt), some (iv ((2 * 3 ^ H : Nat) : Int)), none, none, none] [] σ l := by
  have hwo := hw.2.1
  have hso := hs.2.1
  have hp0 := p3_pos H
  have hple := p3_le hH7
  have hNe : ((2 * 3 ^ H : Nat) : Int) = 2 * ((3 ^ H : Nat) : Int) := by push_cast; rfl
  have hg0 : rg6 (f0N plB ahB cB) := f0N_rg cB (fun i hi => (hah i hi).2.2)
  -- behind the spreading
  have fin : ∀ (τ : sT) (a7 a8 : Int), (∀ a, a ≠ w + 5 → τ a = σ a) → (∀ p, 0 ≤ p → p < ((2 * 3 ^ H : Nat) : Int) → τ (w + 5) p = sps (σ 1 5) (σ 1 6) (f0N plB ahB cB) H p) → FW g zX4_reckonByHoles k n Ψ 145 [some (.ref w), some (.ref 1), some (.ref o), some (iv j), some (iv t), some (iv nt), some (iv ((2 * 3 ^ H : Nat) : Int)), some (iv a7), some (iv a8), none] [] τ l := by
    intro τ a7 a8 hfr hI
    have e1 : τ 1 = σ 1 := hfr 1 (by omega)
    have hgs := sps_rg (f := f0N plB ahB cB) hm.1 hh.1 hg0 H
    refine g_aload0 dX4_reckonByHoles_145 ?_
    refine g_aload1 dX4_reckonByHoles_146 ?_
    refine f_geti (J := 7) rfl (by decide) rfl rfl fl_X4_106 dX4_reckonByHoles_147 ?_
    rw [e1]
    refine g_aload1 dX4_reckonByHoles_150 ?_
    refine f_cV0w (fingeringCount_ok isSt1 (by rw [e1, hH]; exact ⟨by omega, by omega⟩)) rfl (by decide) rfl oY_X3_fingeringCount oI_X3_fingeringCount lk_X4_109 rfl dX4_reckonByHoles_151 rfl (Or.inl rfl) ?_
    rw [e1, hH, pw_nat (by omega)]
    refine f_cV2m (spreadBreath_ok (c := 3 ^ H) hw (by omega) (by omega) hb (fun p a0 a1 => by rw [hI p a0 (by omega)]; exact hgs p)) hw.1 (hw.lt 0 (by decide)) rfl oY_X4_spreadBreath oI_X4_spreadBreath lk_X4_112 rfl dX4_reckonByHoles_154 (by omega) (by omega) rfl (Or.inl rfl) (fun σ154 l154 h154 => ?_)
    obtain ⟨f2, g2, rfl⟩ := h154
    have E : ∀ a, a ≠ w + 5 → σ154 a = σ a := fun a ha => by rw [f2 a ha, hfr a ha]
    refine byHoles_tail (τ0 := σ154) (F := hoF (σ 1 5) (σ 1 6) (σ 1 7) H plB ahB cB) (plA := plA) (fA := fA) hw hs hj ht (by rw [E (o + 1) (by omega)]; exact hcA) hc4.1 (by rw [← hfA]; unfold atF; rw [E (o + 1) (by omega)]) ⟨hfr0.1, hfr0.2.1⟩ (by rw [E (w + 3) (by omega)]; exact ⟨hrw.1, hrw.2.1⟩) (by rw [E (o + 6) (by omega)]; exact hplA) (by rw [E (w + 3) (by omega)]; exact hlA) hlN (fun p a0 a1 => ?_) (fun τ3 f3 g3 u3 => ?_)
    · rw [g2 p a0 (by omega)]
      unfold hoF
      exact spB_congr (fun q b0 b1 => hI q b0 (by omega)) a0 (by omega)
    · rw [E (w + 3) (by omega)] at g3 u3
      exact hΨ τ3 (fun a a4 a5 => by rw [f3 a a4, E a a5]) g3 (fun p hp => by rw [u3 p hp, E (w + 4) (by omega)])
  have spread : ∀ q, q ≤ H → ∀ (i a7 : Int) (τ : sT), i = (q : Int) → (∀ a, a ≠ w + 5 → τ a = σ a) → (∀ p, 0 ≤ p → p < ((2 * 3 ^ H : Nat) : Int) → τ (w + 5) p = sps (σ 1 5) (σ 1 6) (f0N plB ahB cB) q p) → FW g zX4_reckonByHoles k n Ψ 121 [some (.ref w), some (.ref 1), some (.ref o), some (iv j), some (iv t), some (iv nt), some (iv ((2 * 3 ^ H : Nat) : Int)), some (iv a7), some (iv i), none] [] τ l := by
    refine loopUp H (fun q hq ih i a7 τ hi hfr hI => ?_)
    subst hi
    have e1 : τ 1 = σ 1 := hfr 1 (by omega)
    have hgs := sps_rg (f := f0N plB ahB cB) hm.1 hh.1 hg0 q
    have hq0 := p3_pos q
    refine g_iload8 dX4_reckonByHoles_121 ?_
    refine g_aload1 dX4_reckonByHoles_123 ?_
    refine f_geti (J := 8) rfl (by decide) rfl rfl fl_X4_78 dX4_reckonByHoles_124 ?_
    rw [e1, hH]
    refine g_icmp_ge ⟨by omega, by omega⟩ ⟨by omega, by omega⟩ (tgt := 145) dX4_reckonByHoles_127 rfl (fun h127 => ?_) (fun h127 => ?_)
    · have eq : q = H := by omega
      subst eq
      exact fin τ a7 _ hfr hI
    · have hqH : q < H := by omega
      have hqle := p3_le (h := q) (by omega)
      refine g_aload0 dX4_reckonByHoles_130 ?_
      refine g_aload1 dX4_reckonByHoles_131 ?_
      refine g_iload8 dX4_reckonByHoles_132 ?_
      refine g_iload6 dX4_reckonByHoles_134 ?_
      refine f_cV3m (spreadHole_ok (M := 2 * 3 ^ (H - q - 1)) hw ⟨by omega, by omega⟩ hq0 (by omega) (pw_nat (by omega)) (by rw [N_split hqH]; push_cast; rfl) (by omega) (by omega) (by rw [e1]; exact hm) (by rw [e1]; exact hh) (fun p a0 a1 => by rw [hI p a0 a1]; exact hgs p)) hw.1 (hw.lt 0 (by decide)) rfl oY_X4_spreadHole oI_X4_spreadHole lk_X4_102 rfl dX4_reckonByHoles_136 (by omega) (by omega) rfl (Or.inl rfl) (fun σ136 l136 h136 => ?_)
      obtain ⟨f2, g2, rfl⟩ := h136
      rw [e1] at g2
      refine g_iinc8 dX4_reckonByHoles_139 rfl (by decide) ?_
      refine g_goto (tgt := 121) dX4_reckonByHoles_142 rfl ?_
      refine ih hqH _ _ _ (by push_cast; omega) (fun a ha => by rw [f2 a ha]; exact hfr a ha) (fun p a0 a1 => ?_)
      rw [g2 p a0 a1]
      exact spH_congr hq0 (M := 2 * ((3 ^ (H - q - 1) : Nat) : Int)) (by rw [N_split hqH]; push_cast; rfl) hI a0 a1
  have lay : ∀ q, q ≤ cB → ∀ (i : Int) (τ : sT), i = (q : Int) → (∀ a, a ≠ w + 5 → τ a = σ a) → (∀ p, 0 ≤ p → p < ((2 * 3 ^ H : Nat) : Int) → τ (w + 5) p = f0N plB ahB q p) → FW g zX4_reckonByHoles k n Ψ 62 [some (.ref w), some (.ref 1), some (.ref o), some (iv j), some (iv t), some (iv nt), some (iv ((2 * 3 ^ H : Nat) : Int)), some (iv (cB : Int)), some (iv i), none] [] τ l := by
    refine loopUp cB (fun q hq ih i τ hi hfr hI => ?_)
    subst hi
    have e3 : τ (w + 3) = σ (w + 3) := hfr (w + 3) (by omega)
    have e4 : τ (w + 4) = σ (w + 4) := hfr (w + 4) (by omega)
    have e6 : τ (o + 6) = σ (o + 6) := hfr (o + 6) (by omega)
    have eB : atF τ l (o + 1) nt = fB := by rw [← hfB]; unfold atF; rw [hfr (o + 1) (by omega)]
    refine g_iload8 dX4_reckonByHoles_62 ?_
    refine g_iload7 dX4_reckonByHoles_64 ?_
    refine g_icmp_ge ⟨by omega, by omega⟩ ⟨by omega, by omega⟩ (tgt := 118) dX4_reckonByHoles_66 rfl (fun h66 => ?_) (fun h66 => ?_)
    · refine g_iconst dX4_reckonByHoles_118 ?_
      refine g_istore8 dX4_reckonByHoles_119 rfl (by decide) ?_
      have eq : q = cB := by omega
      subst eq
      exact spread 0 (Nat.zero_le _) _ _ _ rfl hfr hI
    · refine g_aload0 dX4_reckonByHoles_69 ?_
      refine f_getr (r := w + 5) hw.1 (hw.lt 0 (by decide)) rfl rfl fl_X4_28 dX4_reckonByHoles_70 ?_
      refine g_aload2 dX4_reckonByHoles_73 ?_
      refine f_getr (r := o + 6) hs.1 (hs.lt 0 (by decide)) rfl rfl fl_X4_99 dX4_reckonByHoles_74 ?_
      refine g_aload2 dX4_reckonByHoles_77 ?_
      refine g_iload5 dX4_reckonByHoles_78 ?_
      refine f_cV1w (firstOfA_ok hs hnt) hs.1 (hs.lt 0 (by decide)) rfl oY_X0_firstOf oI_X0_firstOf lk_X4_88 rfl dX4_reckonByHoles_80 rfl (Or.inl rfl) ?_
      rw [eB]
      refine g_iload8 dX4_reckonByHoles_83 ?_
      refine g_iadd dX4_reckonByHoles_85 ?_
      refine f_cS2w (atI hs.k6 (hs.lt 6 (by decide)) (by omega) (hplB q (by omega)).1) oY_X5_at oT_X5_at lk_X4_58 rfl dX4_reckonByHoles_86 rfl (Or.inl rfl) ?_
      rw [e6, (hplB q (by omega)).2.1]
      refine g_aload0 dX4_reckonByHoles_89 ?_
      refine f_getr (r := w + 4) hw.1 (hw.lt 0 (by decide)) rfl rfl fl_X4_25 dX4_reckonByHoles_90 ?_
      refine g_aload0 dX4_reckonByHoles_93 ?_
      refine f_getr (r := w + 3) hw.1 (hw.lt 0 (by decide)) rfl rfl fl_X4_22 dX4_reckonByHoles_94 ?_
      refine g_iload3 dX4_reckonByHoles_97 ?_
      refine g_iconst dX4_reckonByHoles_98 ?_
      refine g_iadd dX4_reckonByHoles_99 ?_
      refine f_cS2w (atI hw.k3 (hw.lt 3 (by decide)) (by omega) (by rw [hw.n3]; omega)) oY_X5_at oT_X5_at lk_X4_58 rfl dX4_reckonByHoles_100 rfl (Or.inl rfl) ?_
      rw [e3]
      refine g_iload8 dX4_reckonByHoles_103 ?_
      refine g_iadd dX4_reckonByHoles_105 ?_
      refine f_cS2w (atI hw.k4 (hw.lt 4 (by decide)) (by omega) (hah q (by omega)).1) oY_X5_at oT_X5_at lk_X4_58 rfl dX4_reckonByHoles_106 rfl (Or.inl rfl) ?_
      rw [e4, (hah q (by omega)).2.1]
      refine f_cS3d (putI hw.k5 (hw.lt 5 (by decide)) (hplB q (by omega)).2.2.1 (by have := (hplB q (by omega)).2.2.2; omega)) oY_X5_put oT_X5_put lk_X4_51 rfl dX4_reckonByHoles_109 rfl (Or.inl rfl) ?_
      refine g_iinc8 dX4_reckonByHoles_112 rfl (by decide) ?_
      refine g_goto (tgt := 62) dX4_reckonByHoles_115 rfl ?_
      refine ih (by omega) _ _ (by push_cast; omega) (fun a ha => by rw [up_n ha]; exact hfr a ha) (fun p a0 a1 => ?_)
      rw [f0N]
      by_cases c0 : p = plB q
      · rw [if_pos c0, c0, up_eq]
      · rw [if_neg c0, up_ne (fun z => c0 z.2)]
        exact hI p a0 a1
  have fill : ∀ q : Nat, q ≤ 2 * 3 ^ H → ∀ (i : Int) (τ : sT), i = (q : Int) → (∀ a, a ≠ w + 5 → τ a = σ a) → (∀ p, 0 ≤ p → p < (q : Int) → τ (w + 5) p = 1000000) → FW g zX4_reckonByHoles k n Ψ 27 [some (.ref w), some (.ref 1), some (.ref o), some (iv j), some (iv t), some (iv nt), some (iv ((2 * 3 ^ H : Nat) : Int)), some (iv i), none, none] [] τ l := by
    refine loopUp _ (fun q hq ih i τ hi hfr hI => ?_)
    subst hi
    have e1 : τ (o + 1) = σ (o + 1) := hfr (o + 1) (by omega)
    refine g_iload7 dX4_reckonByHoles_27 ?_
    refine g_iload6 dX4_reckonByHoles_29 ?_
    refine g_icmp_ge ⟨by omega, by omega⟩ ⟨by omega, by omega⟩ (tgt := 51) dX4_reckonByHoles_31 rfl (fun h31 => ?_) (fun h31 => ?_)
    · refine g_aload2 dX4_reckonByHoles_51 ?_
      refine g_iload5 dX4_reckonByHoles_52 ?_
      refine f_cV1w (countOf_ok hs hnt) hs.1 (hs.lt 0 (by decide)) rfl oY_X0_countOf oI_X0_countOf lk_X4_62 rfl dX4_reckonByHoles_54 rfl (Or.inl rfl) ?_
      rw [e1, hcB]
      refine g_istore7 dX4_reckonByHoles_57 rfl (by decide) ?_
      refine g_iconst dX4_reckonByHoles_59 ?_
      refine g_istore8 dX4_reckonByHoles_60 rfl (by decide) ?_
      exact lay 0 (Nat.zero_le _) _ _ rfl hfr (fun p a0 a1 => hI p a0 (by omega))
    · refine g_aload0 dX4_reckonByHoles_34 ?_
      refine f_getr (r := w + 5) hw.1 (hw.lt 0 (by decide)) rfl rfl fl_X4_28 dX4_reckonByHoles_35 ?_
      refine g_iload7 dX4_reckonByHoles_38 ?_
      refine g_ldc (v := Int32.ofInt (1000000)) kc_X4_92 dX4_reckonByHoles_40 ?_
      refine f_cS3d (putI hw.k5 (hw.lt 5 (by decide)) (by omega) (by omega)) oY_X5_put oT_X5_put lk_X4_51 rfl dX4_reckonByHoles_42 rfl (Or.inl rfl) ?_
      refine g_iinc7 dX4_reckonByHoles_45 rfl (by decide) ?_
      refine g_goto (tgt := 27) dX4_reckonByHoles_48 rfl ?_
      refine ih (by omega) _ _ (by push_cast; omega) (fun a ha => by rw [up_n ha]; exact hfr a ha) (fun p a0 a1 => ?_)
      by_cases c0 : p = (q : Int)
      · rw [c0, up_eq]
      · rw [up_ne (fun z => c0 z.2)]
        exact hI p a0 (by omega)
  refine g_iconst dX4_reckonByHoles_24 ?_
  refine g_istore7 dX4_reckonByHoles_25 rfl (by decide) ?_
  exact fill 0 (Nat.zero_le _) _ _ rfl (fun a ha => rfl) (fun p a0 a1 => by omega)
theorem byHoles_ok {w o H cA cB A5 : Nat} {j t nt fA fB : Int} {plA plB ahB : Nat → Int} (hw : isWy w) (hs : isCh o) (hH : σ 1 8 = (H : Int)) (hH7 : H ≤ 7) (hj : 0 ≤ j ∧ j < 39) (ht : R32 t) (hnt : R32 nt) (hcA : ctF (σ (o + 1)) t = (cA : Int)) (hcB : ctF (σ (o + 1)) nt = (cB : Int)) (hc4 : cA ≤ 4374 ∧ cB ≤ 4374) (hfA : atF σ l (o + 1) t = fA) (hfB : atF σ l (o + 1) nt = fB) (hfr0 : 0 ≤ fA ∧ fA ≤ 100000 ∧ 0 ≤ fB ∧ fB ≤ 100000) (hrw : 0 ≤ σ (w + 3) j ∧ σ (w + 3) j + cA ≤ 1000000 ∧ 0 ≤ σ (w + 3) (j + 1) ∧ σ (w + 3) (j + 1) ≤ 1000000)
    (hm : 0 ≤ σ 1 5 ∧ σ 1 5 ≤ 9) (hh : 0 ≤ σ 1 6 ∧ σ 1 6 ≤ 9) (hb : 0 ≤ σ 1 7 ∧ σ 1 7 ≤ 9)
    (hplA : ∀ i : Nat, i < cA → fA + i < (ln l (o + 6) : Int) ∧ σ (o + 6) (fA + i) = plA i ∧ 0 ≤ plA i ∧ plA i < ((2 * 3 ^ H : Nat) : Int)) (hplB : ∀ i : Nat, i < cB → fB + i < (ln l (o + 6) : Int) ∧ σ (o + 6) (fB + i) = plB i ∧ 0 ≤ plB i ∧ plB i < ((2 * 3 ^ H : Nat) : Int)) (hlA : σ (w + 3) j + cA ≤ (ln l (w + 4) : Int)) (hA5 : ln l (w + 5) = A5) (hah : ∀ i : Nat, i < cB → σ (w + 3) (j + 1) + i < (ln l (w + 4) : Int) ∧ σ (w + 4) (σ (w + 3) (j + 1) + i) = ahB i ∧ 0 ≤ ahB i ∧ ahB i ≤ 1000000) :
    Fu g zX4_reckonByHoles (if A5 < 2 * 3 ^ H then 1 else 0) (if A5 < 2 * 3 ^ H then 2 * 3 ^ H else 0) [.ref w, .ref 1, .ref o, iv j, iv t, iv nt] σ l (fun σ' l' => (∀ a, a ≠ w + 4 → a ≠ w + 5 → σ' a = σ a) ∧ (∀ i : Nat, i < cA → σ' (w + 4) (σ (w + 3) j + i) = hoF (σ 1 5) (σ 1 6) (σ 1 7) H plB ahB cB (plA i)) ∧ (∀ p, (p < σ (w + 3) j ∨ σ (w + 3) j + cA ≤ p) → σ' (w + 4) p = σ (w + 4) p) ∧ ln l' (w + 5) = max A5 (2 * 3 ^ H) ∧ ∀ a, a ≠ w + 5 → l' a = l a) := by
  have hwo := hw.2.1
  have hso := hs.2.1
  have hple := p3_le hH7
  have hNe : ((2 * 3 ^ H : Nat) : Int) = 2 * ((3 ^ H : Nat) : Int) := by push_cast; rfl
  have hA4 : A5 ≤ 400000 := by rw [← hA5]; exact ln_le _ _
  refine Fn.of [some (.ref w), some (.ref 1), some (.ref o), some (iv j), some (iv t), some (iv nt), none, none, none, none] rfl (by decide) (Nat.le_of_ble_eq_true rfl) rfl ?_
  by_cases hg : A5 < 2 * 3 ^ H
  · rw [if_pos hg, if_pos hg]
    refine g_aload1 dX4_reckonByHoles_0 ?_
    refine f_cV0w (playCount_ok isSt1 (by rw [hH]; exact ⟨by omega, by omega⟩)) rfl (by decide) rfl oY_X3_playCount oI_X3_playCount lk_X4_74 rfl dX4_reckonByHoles_1 rfl (Or.inl rfl) ?_
    rw [hH, pw_nat (by omega), ← hNe]
    refine g_istore6 dX4_reckonByHoles_4 rfl (by decide) ?_
    refine g_iload6 dX4_reckonByHoles_6 ?_
    refine g_aload0 dX4_reckonByHoles_8 ?_
    refine f_getr (r := w + 5) hw.1 (hw.lt 0 (by decide)) rfl rfl fl_X4_28 dX4_reckonByHoles_9 ?_
    refine f_alen (by rw [hw.k5]; decide) (hw.lt 5 (by decide)) dX4_reckonByHoles_12 ?_
    rw [hA5]
    refine g_icmp_le ⟨by omega, by omega⟩ ⟨by omega, by omega⟩ (tgt := 24) dX4_reckonByHoles_13 rfl (fun h13 => absurd h13 (by omega)) (fun h13 => ?_)
    refine g_aload0 dX4_reckonByHoles_16 ?_
    refine g_iload6 dX4_reckonByHoles_17 ?_
    refine f_newput (r := w + 5) (by decide) hw.1 (hw.lt 0 (by decide)) rfl rfl hw.o5 hw.k5 (hw.lt 5 (by decide)) fl_X4_28 (fun _ _ _ h => by cases h; rfl) rfl ⟨⟨⟨Or.inl (hw.lt 0 (by decide)), hw.ow⟩, (show okV 110 (.ref 1) from okVb_of rfl), ⟨Or.inl (hs.lt 0 (by decide)), hs.ow⟩, trivial, trivial, trivial, trivial, trivial, trivial, trivial, trivial⟩, trivial⟩ (by omega) dX4_reckonByHoles_19 dX4_reckonByHoles_21 (by omega) (by omega) ?_
    have z5 : ∀ a, a ≠ w + 5 → upz σ (w + 5) a = σ a := fun a ha => by funext c; unfold upz; rw [if_neg ha]
    have u5 : ∀ a, a ≠ w + 5 → upl l (w + 5) (2 * 3 ^ H) a = l a := fun a ha => by unfold upl; rw [if_neg ha]
    have n5 : ln (upl l (w + 5) (2 * 3 ^ H)) (w + 5) = 2 * 3 ^ H := by
      unfold ln upl
      rw [if_neg (by rw [hw.o5]; exact fun q => by cases q), if_pos rfl]
      omega
    have nn : ∀ a, a ≠ w + 5 → ln (upl l (w + 5) (2 * 3 ^ H)) a = ln l a := fun a ha => by unfold ln; rw [u5 a ha]
    refine byHoles_body (σ := upz σ (w + 5)) (plA := plA) (plB := plB) (ahB := ahB) (fA := fA) (fB := fB) hw hs (by rw [z5 1 (by omega)]; exact hH) hH7 hj ht hnt (by rw [z5 (o + 1) (by omega)]; exact hcA) (by rw [z5 (o + 1) (by omega)]; exact hcB) hc4 (by rw [← hfA]; unfold atF; rw [z5 (o + 1) (by omega), nn (o + 1) (by omega)]) (by rw [← hfB]; unfold atF; rw [z5 (o + 1) (by omega), nn (o + 1) (by omega)]) hfr0 (by rw [z5 (w + 3) (by omega)]; exact hrw) (by rw [z5 1 (by omega)]; exact hm) (by rw [z5 1 (by omega)]; exact hh) (by rw [z5 1 (by omega)]; exact hb) (by rw [z5 (o + 6) (by omega), nn (o + 6) (by omega)]; exact hplA) (by rw [z5 (o + 6) (by omega), nn (o + 6) (by omega)]; exact hplB) (by rw [z5 (w + 3) (by omega), nn (w + 4) (by omega)]; exact hlA) (by rw [n5]; exact Int.le_refl _) (by rw [z5 (w + 3) (by omega), z5 (w + 4) (by omega), nn (w + 4) (by omega)]; exact hah) (fun τ f2 g2 u2 => ?_)
    rw [z5 (w + 3) (by omega)] at g2 u2
    rw [z5 1 (by omega)] at g2
    exact ⟨rfl, fun a a4 a5 => by rw [f2 a a4 a5, z5 a a5], g2, fun p hp => by rw [u2 p hp, z5 (w + 4) (by omega)], by rw [n5]; omega, u5⟩
  · rw [if_neg hg, if_neg hg]
    refine g_aload1 dX4_reckonByHoles_0 ?_
    refine f_cV0w (playCount_ok isSt1 (by rw [hH]; exact ⟨by omega, by omega⟩)) rfl (by decide) rfl oY_X3_playCount oI_X3_playCount lk_X4_74 rfl dX4_reckonByHoles_1 rfl (Or.inl rfl) ?_
    rw [hH, pw_nat (by omega), ← hNe]
    refine g_istore6 dX4_reckonByHoles_4 rfl (by decide) ?_
    refine g_iload6 dX4_reckonByHoles_6 ?_
    refine g_aload0 dX4_reckonByHoles_8 ?_
    refine f_getr (r := w + 5) hw.1 (hw.lt 0 (by decide)) rfl rfl fl_X4_28 dX4_reckonByHoles_9 ?_
    refine f_alen (by rw [hw.k5]; decide) (hw.lt 5 (by decide)) dX4_reckonByHoles_12 ?_
    rw [hA5]
    refine g_icmp_le ⟨by omega, by omega⟩ ⟨by omega, by omega⟩ (tgt := 24) dX4_reckonByHoles_13 rfl (fun h13 => ?_) (fun h13 => absurd h13 (by omega))
    refine byHoles_body (plA := plA) (plB := plB) (ahB := ahB) (fA := fA) (fB := fB) hw hs hH hH7 hj ht hnt hcA hcB hc4 hfA hfB hfr0 hrw hm hh hb hplA hplB hlA (by rw [hA5]; omega) hah (fun τ f2 g2 u2 => ?_)
    exact ⟨rfl, f2, g2, u2, by rw [hA5]; omega, fun a ha => rfl⟩
end C36
