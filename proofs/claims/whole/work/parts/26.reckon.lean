/-! Fingerings.reckon, fingeringOf, centsOf, codeOf -/
section C26
variable {g : gT} {σ : sT} {l : Nat → Nat}
theorem nd_congr {T T' : Int → Int} (w : Int) (h : ∀ j, 0 ≤ j → j < 49 → T j = T' j) : ∀ f k, k + f ≤ 47 → nd T w f k = nd T' w f k := by
  intro f
  induction f with
  | zero => intro k _; rfl
  | succ f ih =>
    intro k hk
    unfold nd
    rw [h ((k : Int) + 1) (by omega) (by omega), ih (k + 1) (by omega)]
theorem pit_congr {T T' : Int → Int} (h : ∀ j, 0 ≤ j → j < 49 → T j = T' j) (len : Int) : pit T len = pit T' len := by
  unfold pit
  have hn := nd_le T' (1000 * len) 47 0
  rw [nd_congr (1000 * len) h 47 0 (by decide), h _ (by omega) (by omega), h ((nd T' (1000 * len) 47 0 : Int) + 1) (by omega) (by omega)]
def FCap (l : Nat → Nat) (C : Nat) : Prop := ln l 18 = C ∧ ln l 19 = C ∧ ln l 20 = C ∧ ln l 21 = C ∧ ln l 22 = C
/-- what is reckoned of all fingerings of H holes -/
def FPit (τ : sT) (b : Int) (pl sz : Int → Int) (w : Int) (H : Nat) : Prop := τ 17 0 = ((3 ^ H : Nat) : Int) ∧ (∀ r, 0 ≤ r → r < ((3 ^ H : Nat) : Int) → τ 21 r = Lq b pl sz w H H r) ∧ ∀ r, 0 ≤ r → r < ((3 ^ H : Nat) : Int) → τ 22 r = pit (stI w) (Lq b pl sz w H H r)
theorem reckon_tail {k n : Nat} {H C : Nat} {τ : sT} {l2 : Nat → Nat} {Ψ : mO → sT → (Nat → Nat) → Prop} (hB : okB (σ 1 1) (σ 2) (σ 3) H) (hH : σ 1 8 = (H : Int)) (h0 : 200 ≤ σ 1 0 ∧ σ 1 0 ≤ 600) (hC : FCap l2 C) (hHC : ((3 ^ H : Nat) : Int) ≤ C) (hcnt : τ 17 0 = ((3 ^ H : Nat) : Int)) (hfr : ∀ a, a < 17 ∨ 23 < a → τ a = σ a)
    (hΨ : ∀ τ', (∀ a, a ≠ 21 → a ≠ 22 → a ≠ 23 → τ' a = τ a) → FPit τ' (σ 1 1) (σ 2) (σ 3) (10 * σ 1 0 + 6 * σ 1 1) H → Ψ (.inl none) τ' l2) : FW g zX1_reckon k n Ψ 28 [some (.ref 17), some (.ref 1), none, none] [] τ l2 := by
  have hH7 := hB.2.2.1
  have hb1 := hB.1
  have hb2 := hB.2.1
  have hpos := p3_pos H
  have hple := p3_le hH7
  have e1 : τ 1 = σ 1 := hfr 1 (by decide)
  have e2 : τ 2 = σ 2 := hfr 2 (by decide)
  have e3 : τ 3 = σ 3 := hfr 3 (by decide)
  have loop : ∀ (τ4 : sT), (∀ a, a ≠ 21 → a ≠ 23 → τ4 a = τ a) → (∀ r, 0 ≤ r → r < ((3 ^ H : Nat) : Int) → τ4 21 r = Lq (σ 1 1) (σ 2) (σ 3) (10 * σ 1 0 + 6 * σ 1 1) H H r) → (∀ j, 0 ≤ j → j < 49 → τ4 23 j = stI (10 * σ 1 0 + 6 * σ 1 1) j) →
      ∀ j : Nat, j ≤ 3 ^ H → ∀ (i : Int) (τ5 : sT), i = (j : Int) → (∀ a, a ≠ 22 → τ5 a = τ4 a) → (∀ r, 0 ≤ r → r < (j : Int) → τ5 22 r = pit (stI (10 * σ 1 0 + 6 * σ 1 1)) (Lq (σ 1 1) (σ 2) (σ 3) (10 * σ 1 0 + 6 * σ 1 1) H H r)) → FW g zX1_reckon k n Ψ 57 [some (.ref 17), some (.ref 1), some (iv (10 * σ 1 0 + 6 * σ 1 1)), some (iv i)] [] τ5 l2 := by
    intro τ4 f4 g4 s4
    refine loopUp _ (fun j hj ih i τ5 hi f5 g5 => ?_)
    subst hi
    have c5 : τ5 17 0 = ((3 ^ H : Nat) : Int) := by rw [f5 17 (by decide), f4 17 (by decide) (by decide)]; exact hcnt
    refine g_iload3 dX1_reckon_57 ?_
    refine g_aload0 dX1_reckon_58 ?_
    refine f_geti (J := 0) rfl (by decide) rfl rfl fl_X1_9 dX1_reckon_59 ?_
    refine g_icmp_ge ⟨by omega, by omega⟩ ⟨by omega, by omega⟩ (tgt := 91) dX1_reckon_62 rfl (fun h62 => ?_) (fun h62 => ?_)
    · refine g_return rfl dX1_reckon_91 ?_
      refine fn_ret (hΨ τ5 (fun a a1 a2 a3 => by rw [f5 a a2, f4 a a1 a3]) ⟨c5, fun r a0 a1 => by rw [f5 21 (by decide)]; exact g4 r a0 a1, fun r a0 a1 => g5 r a0 (by omega)⟩)
    · have hLr := Lq_rng hB (w := 10 * σ 1 0 + 6 * σ 1 1) (by omega) H (Nat.le_refl _) (j : Int)
      have t5 : ∀ z, 0 ≤ z → z < 49 → τ5 23 z = stI (10 * σ 1 0 + 6 * σ 1 1) z := fun z a0 a1 => by rw [f5 23 (by decide)]; exact s4 z a0 a1
      refine g_aload0 dX1_reckon_65 ?_
      refine f_getr (r := 22) rfl (by decide) rfl rfl fl_X1_28 dX1_reckon_66 ?_
      refine g_iload3 dX1_reckon_69 ?_
      refine g_aload0 dX1_reckon_70 ?_
      refine g_aload0 dX1_reckon_71 ?_
      refine f_getr (r := 21) rfl (by decide) rfl rfl fl_X1_25 dX1_reckon_72 ?_
      refine g_iload3 dX1_reckon_75 ?_
      refine f_cS2w (atI rfl (by decide) (by omega) (by rw [hC.2.2.2.1]; omega)) oY_X5_at oT_X5_at lk_X1_57 rfl dX1_reckon_76 rfl (Or.inl rfl) ?_
      rw [f5 21 (by decide), g4 j (by omega) (by omega)]
      refine f_cV1w (pitchOf_ok (fun j a0 a1 => by rw [t5 j a0 a1]; unfold stI; have := stp_rng (w := 10 * σ 1 0 + 6 * σ 1 1) (by omega) j.toNat; omega) ⟨by omega, by rw [t5 0 (by decide) (by decide)]; show _ ≤ 1000 * (10 * σ 1 0 + 6 * σ 1 1); omega⟩) rfl (by decide) rfl oY_X1_pitchOf oI_X1_pitchOf lk_X1_61 rfl dX1_reckon_79 rfl (Or.inl rfl) ?_
      rw [pit_congr t5]
      refine f_cS3d (putI rfl (by decide) (by omega) (by rw [hC.2.2.2.2]; omega)) oY_X5_put oT_X5_put lk_X1_65 rfl dX1_reckon_82 rfl (Or.inl rfl) ?_
      refine g_iinc3 dX1_reckon_85 rfl (by decide) ?_
      refine g_goto (tgt := 57) dX1_reckon_88 rfl ?_
      refine ih (by omega) _ _ (by push_cast; omega) (fun a ha => by rw [up_n ha]; exact f5 a ha) (fun r a0 a1 => ?_)
      by_cases e9 : r = (j : Int)
      · rw [e9, up_eq]
      · rw [up_ne (by omega)]
        exact g5 r a0 (by omega)
  refine g_bipush dX1_reckon_28 (by decide) ?_
  refine g_aload1 dX1_reckon_30 ?_
  refine f_geti (J := 0) rfl (by decide) rfl rfl fl_X1_44 dX1_reckon_31 ?_
  rw [e1]
  refine g_imul dX1_reckon_34 ?_
  refine g_bipush dX1_reckon_35 (by decide) ?_
  refine g_aload1 dX1_reckon_37 ?_
  refine f_geti (J := 1) rfl (by decide) rfl rfl fl_X1_47 dX1_reckon_38 ?_
  rw [e1]
  refine g_imul dX1_reckon_41 ?_
  refine g_iadd dX1_reckon_42 ?_
  refine g_istore2 dX1_reckon_43 rfl (by decide) ?_
  refine g_aload0 dX1_reckon_44 ?_
  refine g_aload1 dX1_reckon_45 ?_
  refine g_iload2 dX1_reckon_46 ?_
  refine f_cV2m (layLengths_ok (w := 10 * σ 1 0 + 6 * σ 1 1) (by rw [e1, e2, e3]; exact hB) (by rw [e1]; exact hH) ⟨by omega, by omega⟩ hcnt (by rw [hC.2.2.2.1]; exact hHC)) rfl (by decide) rfl oY_X1_layLengths oI_X1_layLengths lk_X1_50 rfl dX1_reckon_47 (by omega) (by omega) rfl (Or.inl rfl) (fun σ47 l47 h47 => ?_)
  obtain ⟨f3, g3, rfl⟩ := h47
  rw [e1, e2, e3] at g3
  refine g_aload0 dX1_reckon_50 ?_
  refine g_iload2 dX1_reckon_51 ?_
  refine f_cV1m (laySteps_ok ⟨by omega, by omega⟩) rfl (by decide) rfl oY_X1_laySteps oI_X1_laySteps lk_X1_54 rfl dX1_reckon_52 (by omega) (by omega) rfl (Or.inl rfl) (fun σ52 l52 h52 => ?_)
  obtain ⟨f4, s4, rfl⟩ := h52
  refine g_iconst dX1_reckon_55 ?_
  refine g_istore3 dX1_reckon_56 rfl (by decide) ?_
  exact loop σ52 (fun a a1 a2 => by rw [f4 a a2, f3 a a1]) (fun r a0 a1 => by rw [f4 21 (by decide)]; exact g3 r a0 a1) s4 0 (Nat.zero_le _) _ _ rfl (fun a ha => rfl) (fun r a0 a1 => by omega)
theorem FCap_upl5 {l : Nat → Nat} {K : Nat} (hK : K ≤ 400000) : FCap (upl5 l K) K := ⟨upl5_in hK (by decide), upl5_in hK (by decide), upl5_in hK (by decide), upl5_in hK (by decide), upl5_in hK (by decide)⟩
theorem reckon_ok {H C : Nat} (hB : okB (σ 1 1) (σ 2) (σ 3) H) (hH : σ 1 8 = (H : Int)) (h0 : 200 ≤ σ 1 0 ∧ σ 1 0 ≤ 600) (hC : FCap l C) (hFG : FG σ C) (hC7 : C ≤ 2187) : Fu g zX1_reckon (if C < 3 ^ H then 5 else 0) (if C < 3 ^ H then 5 * 3 ^ H else 0) [.ref 17, .ref 1] σ l (fun σ' l' => (∀ a, a < 17 ∨ 23 < a → σ' a = σ a) ∧ FPit σ' (σ 1 1) (σ 2) (σ 3) (10 * σ 1 0 + 6 * σ 1 1) H ∧ FCap l' (max C (3 ^ H)) ∧ FG σ' (max C (3 ^ H) : Nat) ∧ ∀ a, a < 18 ∨ 22 < a → l' a = l a) := by
  have hH7 := hB.2.2.1
  have hpos := p3_pos H
  have hple := p3_le hH7
  refine Fn.of [some (.ref 17), some (.ref 1), none, none] rfl (by decide) (Nat.le_of_ble_eq_true rfl) rfl ?_
  by_cases hg : C < 3 ^ H
  · rw [if_pos hg, if_pos hg]
    have emax : max C (3 ^ H) = 3 ^ H := by omega
    rw [emax]
    refine g_aload0 dX1_reckon_0 ?_
    refine g_aload1 dX1_reckon_1 ?_
    refine f_cV0w (fingeringCount_ok ⟨rfl, by decide, rfl, rfl, rfl, fun _ => rfl, fun _ => rfl, fun _ => rfl, rfl⟩ (by rw [hH]; exact ⟨by omega, by omega⟩)) rfl (by decide) rfl oY_X3_fingeringCount oI_X3_fingeringCount lk_X1_34 rfl dX1_reckon_2 rfl (Or.inl rfl) ?_
    rw [hH, pw_nat (by omega)]
    refine f_puti (J := 0) rfl (by decide) rfl rfl fl_X1_9 rfl (fun _ _ _ h => by cases h; rfl) dX1_reckon_5 ?_
    refine g_aload0 dX1_reckon_8 ?_
    refine f_geti (J := 0) rfl (by decide) rfl rfl fl_X1_9 dX1_reckon_9 ?_
    rw [up_eq]
    refine g_aload0 dX1_reckon_12 ?_
    refine f_getr (r := 18) rfl (by decide) rfl rfl fl_X1_15 dX1_reckon_13 ?_
    refine f_alen (by decide) (by decide) dX1_reckon_16 ?_
    rw [hC.1]
    refine g_icmp_le ⟨by omega, by omega⟩ ⟨by omega, by omega⟩ (tgt := 28) dX1_reckon_17 rfl (fun h17 => absurd h17 (by omega)) (fun h17 => ?_)
    refine g_aload0 dX1_reckon_20 ?_
    refine g_aload0 dX1_reckon_21 ?_
    refine f_geti (J := 0) rfl (by decide) rfl rfl fl_X1_9 dX1_reckon_22 ?_
    rw [up_eq]
    refine f_cV1m (growTo_ok (K := 3 ^ H) hH7 rfl) rfl (by decide) rfl oY_X1_growTo oI_X1_growTo lk_X1_40 rfl dX1_reckon_25 (by omega) (by omega) rfl (okFb_of rfl) (fun σ25 l25 h25 => ?_)
    obtain ⟨f2, g2, rfl⟩ := h25
    refine reckon_tail hB hH h0 (C := 3 ^ H) (FCap_upl5 (by omega)) (by omega) (by rw [f2 17 (by decide), up_eq]) (fun a ha => by rw [f2 a (by omega), up_n (by omega)]) (fun τ' f' hp => ⟨rfl, fun a ha => by rw [f' a (by omega) (by omega) (by omega), f2 a (by omega), up_n (by omega)], hp, FCap_upl5 (by omega), fun p a0 a1 => ?_, fun a ha => upl5_out ha⟩)
    unfold FG1
    rw [f' 18 (by decide) (by decide) (by decide), f' 19 (by decide) (by decide) (by decide), f' 20 (by decide) (by decide) (by decide)]
    exact g2 p a0 a1
  · rw [if_neg hg, if_neg hg]
    have emax : max C (3 ^ H) = C := by omega
    rw [emax]
    refine g_aload0 dX1_reckon_0 ?_
    refine g_aload1 dX1_reckon_1 ?_
    refine f_cV0w (fingeringCount_ok ⟨rfl, by decide, rfl, rfl, rfl, fun _ => rfl, fun _ => rfl, fun _ => rfl, rfl⟩ (by rw [hH]; exact ⟨by omega, by omega⟩)) rfl (by decide) rfl oY_X3_fingeringCount oI_X3_fingeringCount lk_X1_34 rfl dX1_reckon_2 rfl (Or.inl rfl) ?_
    rw [hH, pw_nat (by omega)]
    refine f_puti (J := 0) rfl (by decide) rfl rfl fl_X1_9 rfl (fun _ _ _ h => by cases h; rfl) dX1_reckon_5 ?_
    refine g_aload0 dX1_reckon_8 ?_
    refine f_geti (J := 0) rfl (by decide) rfl rfl fl_X1_9 dX1_reckon_9 ?_
    rw [up_eq]
    refine g_aload0 dX1_reckon_12 ?_
    refine f_getr (r := 18) rfl (by decide) rfl rfl fl_X1_15 dX1_reckon_13 ?_
    refine f_alen (by decide) (by decide) dX1_reckon_16 ?_
    rw [hC.1]
    refine g_icmp_le ⟨by omega, by omega⟩ ⟨by omega, by omega⟩ (tgt := 28) dX1_reckon_17 rfl (fun h17 => ?_) (fun h17 => absurd h17 (by omega))
    refine reckon_tail hB hH h0 hC (by omega) up_eq (fun a ha => up_n (by omega)) (fun τ' f' hp => ⟨rfl, fun a ha => by rw [f' a (by omega) (by omega) (by omega), up_n (by omega)], hp, hC, fun p a0 a1 => ?_, fun a ha => rfl⟩)
    unfold FG1
    rw [f' 18 (by decide) (by decide) (by decide), f' 19 (by decide) (by decide) (by decide), f' 20 (by decide) (by decide) (by decide), up_n (by decide), up_n (by decide), up_n (by decide)]
    exact hFG p a0 a1
def fgF (c p : Int) : Int := if p < c then p else p - c
theorem fingeringOf_ok {p : Int} (hp : R32 p) (hc : R32 (σ 17 0)) : Fw g zX1_fingeringOf [.ref 17, iv p] σ l (iv (fgF (σ 17 0) p)) := by
  refine Fn.of [some (.ref 17), some (iv p)] rfl (by decide) (Nat.le_of_ble_eq_true rfl) rfl ?_
  refine g_iload1 dX1_fingeringOf_0 ?_
  refine g_aload0 dX1_fingeringOf_1 ?_
  refine f_geti (J := 0) rfl (by decide) rfl rfl fl_X1_9 dX1_fingeringOf_2 ?_
  refine g_icmp_ge hp hc (tgt := 12) dX1_fingeringOf_5 rfl (fun h5 => ?_) (fun h5 => ?_)
  · refine g_iload1 dX1_fingeringOf_12 ?_
    refine g_aload0 dX1_fingeringOf_13 ?_
    refine f_geti (J := 0) rfl (by decide) rfl rfl fl_X1_9 dX1_fingeringOf_14 ?_
    refine g_isub dX1_fingeringOf_17 ?_
    refine g_iretI rfl dX1_fingeringOf_18 ?_
    exact Fw.ret (by unfold fgF; first | rw [if_pos (by omega)] | rw [if_neg (by omega)])
  · refine g_iload1 dX1_fingeringOf_8 ?_
    refine g_goto (tgt := 18) dX1_fingeringOf_9 rfl ?_
    refine g_iretI rfl dX1_fingeringOf_18 ?_
    exact Fw.ret (by unfold fgF; first | rw [if_pos (by omega)] | rw [if_neg (by omega)])

theorem centsOf_ok {p : Int} (hc : 0 ≤ σ 17 0 ∧ σ 17 0 ≤ 2187 ∧ σ 17 0 ≤ (ln l 22 : Int)) (hp : 0 ≤ p ∧ p < 2 * σ 17 0) : Fw g zX1_centsOf [.ref 17, iv p] σ l (iv (σ 22 (fgF (σ 17 0) p) + (if p < σ 17 0 then 0 else 1200))) := by
  refine Fn.of [some (.ref 17), some (iv p)] rfl (by decide) (Nat.le_of_ble_eq_true rfl) rfl ?_
  refine g_aload0 dX1_centsOf_0 ?_
  refine f_getr (r := 22) rfl (by decide) rfl rfl fl_X1_28 dX1_centsOf_1 ?_
  refine g_aload0 dX1_centsOf_4 ?_
  refine g_iload1 dX1_centsOf_5 ?_
  refine f_cV1w (fingeringOf_ok ⟨by omega, by omega⟩ ⟨by omega, by omega⟩) rfl (by decide) rfl oY_X1_fingeringOf oI_X1_fingeringOf lk_X1_107 rfl dX1_centsOf_6 rfl (Or.inl rfl) ?_
  refine f_cS2w (atI rfl (by decide) (by unfold fgF; split <;> omega) (by unfold fgF; split <;> omega)) oY_X5_at oT_X5_at lk_X1_57 rfl dX1_centsOf_9 rfl (Or.inl rfl) ?_
  refine g_iload1 dX1_centsOf_12 ?_
  refine g_aload0 dX1_centsOf_13 ?_
  refine f_geti (J := 0) rfl (by decide) rfl rfl fl_X1_9 dX1_centsOf_14 ?_
  refine g_icmp_ge ⟨by omega, by omega⟩ ⟨by omega, by omega⟩ (tgt := 24) dX1_centsOf_17 rfl (fun h17 => ?_) (fun h17 => ?_)
  · refine g_sipush dX1_centsOf_24 (by decide) ?_
    refine g_iadd dX1_centsOf_27 ?_
    refine g_iretI rfl dX1_centsOf_28 ?_
    exact Fw.ret (by first | rw [if_pos (by omega)] | rw [if_neg (by omega)])
  · refine g_iconst dX1_centsOf_20 ?_
    refine g_goto (tgt := 27) dX1_centsOf_21 rfl ?_
    refine g_iadd dX1_centsOf_27 ?_
    refine g_iretI rfl dX1_centsOf_28 ?_
    exact Fw.ret (by first | rw [if_pos (by omega)] | rw [if_neg (by omega)])

theorem codeOf_ok {p : Int} {c : Nat} (hc : 0 ≤ σ 17 0 ∧ σ 17 0 ≤ 2187 ∧ σ 17 0 ≤ (ln l 18 : Int)) (hp : 0 ≤ p ∧ p < 2 * σ 17 0) (hv : σ 18 (fgF (σ 17 0) p) = (c : Int)) : Fw g zX1_codeOf [.ref 17, iv p] σ l (iv ((c ||| (if p < σ 17 0 then 0 else 16384) : Nat) : Int)) := by
  refine Fn.of [some (.ref 17), some (iv p)] rfl (by decide) (Nat.le_of_ble_eq_true rfl) rfl ?_
  refine g_aload0 dX1_codeOf_0 ?_
  refine f_getr (r := 18) rfl (by decide) rfl rfl fl_X1_15 dX1_codeOf_1 ?_
  refine g_aload0 dX1_codeOf_4 ?_
  refine g_iload1 dX1_codeOf_5 ?_
  refine f_cV1w (fingeringOf_ok ⟨by omega, by omega⟩ ⟨by omega, by omega⟩) rfl (by decide) rfl oY_X1_fingeringOf oI_X1_fingeringOf lk_X1_107 rfl dX1_codeOf_6 rfl (Or.inl rfl) ?_
  refine f_cS2w (atI rfl (by decide) (by unfold fgF; split <;> omega) (by unfold fgF; split <;> omega)) oY_X5_at oT_X5_at lk_X1_57 rfl dX1_codeOf_9 rfl (Or.inl rfl) ?_
  rw [hv]
  refine g_iload1 dX1_codeOf_12 ?_
  refine g_aload0 dX1_codeOf_13 ?_
  refine f_geti (J := 0) rfl (by decide) rfl rfl fl_X1_9 dX1_codeOf_14 ?_
  refine g_icmp_ge ⟨by omega, by omega⟩ ⟨by omega, by omega⟩ (tgt := 24) dX1_codeOf_17 rfl (fun h17 => ?_) (fun h17 => ?_)
  · refine g_sipush dX1_codeOf_24 (by decide) ?_
    refine g_ior dX1_codeOf_27 ?_
    refine g_iretI rfl dX1_codeOf_28 ?_
    exact Fw.ret (by first | rw [if_pos (by omega)] | rw [if_neg (by omega)])
  · refine g_iconst dX1_codeOf_20 ?_
    refine g_goto (tgt := 27) dX1_codeOf_21 rfl ?_
    refine g_ior dX1_codeOf_27 ?_
    refine g_iretI rfl dX1_codeOf_28 ?_
    exact Fw.ret (by first | rw [if_pos (by omega)] | rw [if_neg (by omega)])

end C26
