/-! Choice.choose -/
section C29
variable {g : gT} {σ : sT} {l : Nat → Nat}
theorem frI_congr {c d : Int → Int} (T : Nat) (h : ∀ t : Nat, t < T → c t = d t) : frI c T = frI d T := by
  induction T with
  | zero => rfl
  | succ T ih => rw [frI_s, frI_s, ih (fun t ht => h t (by omega)), h T (by omega)]
theorem choose_tail {k n o N C : Nat} {tol hv cr : Int} {Ψ : mO → sT → (Nat → Nat) → Prop} (hs : isCh o) (hN : (N : Int) = 2 * σ 17 0) (hc : 0 ≤ σ 17 0 ∧ σ 17 0 ≤ 2187 ∧ σ 17 0 ≤ C) (hFC : FCap l C) (hFG : FG σ C) (hcen : ∀ r, 0 ≤ r → r < σ 17 0 → 0 ≤ σ 22 r ∧ σ 22 r ≤ 4800) (htol : 0 ≤ tol ∧ tol ≤ 100) (hv9 : 0 ≤ hv ∧ hv ≤ 9) (cr9 : 0 ≤ cr ∧ cr ≤ 9) (hln : N ≤ ln l (o + 5) ∧ N ≤ ln l (o + 6) ∧ N ≤ ln l (o + 7))
    (hΨ : ∀ τ : sT, (∀ a, a < o + 1 ∨ o + 7 < a → τ a = σ a) → ChO τ o (teP (σ 22) (σ 17 0) tol hv cr) (tnP (σ 22) (σ 17 0) tol) (σ 17 0) N → Ψ (.inl none) τ l) : FW g zX0_choose k n Ψ 42 [some (.ref o), some (.ref 17), some (iv tol), some (iv hv), some (iv cr), some (iv (N : Int)), none, none] [] σ l := by
  have ho := hs.2.1
  have hT : ∀ q : Nat, q < N → -1 ≤ teP (σ 22) (σ 17 0) tol hv cr q ∧ teP (σ 22) (σ 17 0) tol hv cr q < 25 := fun q hq => teP_rng (tonF_rng (by
    have hr0 : 0 ≤ fgF (σ 17 0) q ∧ fgF (σ 17 0) q < σ 17 0 := by unfold fgF; split <;> omega
    have := hcen _ hr0.1 hr0.2
    split <;> omega))
  refine g_iconst dX0_choose_42 ?_
  refine g_istore6 dX0_choose_43 rfl (by decide) ?_
  refine ch_zero (σ := σ) hs (fun τ i f0 z0 => ?_) 0 (Nat.zero_le _) _ _ rfl (fun a _ _ _ => rfl) (fun t a0 a1 => by omega)
  refine g_iconst dX0_choose_88 ?_
  refine g_istore6 dX0_choose_89 rfl (by decide) ?_
  refine ch_count hs hN hc hFC hFG hcen htol hv9 cr9 hln.1 (fun τ2 i2 a7 f1 c1 c5 => ?_) 0 (Nat.zero_le _) _ _ _ rfl (fun a a2 a3 a4 a5 => f0 a a2 a3 a4) (fun t a0 a1 => ⟨(z0 t a0 a1).1, (z0 t a0 a1).2.1, (z0 t a0 a1).2.2⟩) (fun q hq => by omega)
  refine g_aload0 dX0_choose_146 ?_
  refine f_cV0m (layFirsts_ok hs (fun t a0 a1 => by rw [(c1 t a0 a1).1]; have := cnI_rng (teP (σ 22) (σ 17 0) tol hv cr) t N; omega)) hs.1 (hs.lt 0 (by decide)) rfl oY_X0_layFirsts oI_X0_layFirsts lk_X0_55 rfl dX0_choose_147 (by omega) (by omega) rfl (Or.inl rfl) (fun σ147 l147 h147 => ?_)
  obtain ⟨g1, g2, g3, rfl⟩ := h147
  refine g_iconst dX0_choose_150 ?_
  refine g_istore6 dX0_choose_151 rfl (by decide) ?_
  have e17 : σ147 17 = σ 17 := by rw [g1 17 (by omega) (by omega), f1 17 (by omega) (by omega) (by omega) (by omega)]
  have e18 : σ147 18 = σ 18 := by rw [g1 18 (by omega) (by omega), f1 18 (by omega) (by omega) (by omega) (by omega)]
  have e19 : σ147 19 = σ 19 := by rw [g1 19 (by omega) (by omega), f1 19 (by omega) (by omega) (by omega) (by omega)]
  have e20 : σ147 20 = σ 20 := by rw [g1 20 (by omega) (by omega), f1 20 (by omega) (by omega) (by omega) (by omega)]
  have cg : ∀ t : Nat, t ≤ 25 → frI (τ2 (o + 2)) t = frI (fun z => cnI (teP (σ 22) (σ 17 0) tol hv cr) z N) t := fun t ht => frI_congr t (fun z hz => (c1 z (by omega) (by omega)).1)
  refine ch_place (σ := σ147) (C := C) (TE := teP (σ 22) (σ 17 0) tol hv cr) hs (by rw [e17]; exact hN) (by rw [e17]; exact hc) hFC (fun p a0 a1 => by unfold FG1; rw [e18, e19, e20]; exact hFG p a0 a1) hT hln (fun t ht => by rw [g2 t ht, cg t ht]) (fun q hq => by rw [g1 (o + 5) (by omega) (by omega)]; exact c5 q hq) (fun τ3 f3 E3 => ?_) 0 (Nat.zero_le _) _ _ _ rfl (fun a _ _ _ => rfl) (fun t ht => by rw [g3 t ht, cg t (by omega)]; exact (Int.add_zero _).symm) (fun t ht i q hq => by cases hq)
  rw [e17] at E3
  refine hΨ τ3 (fun a ha => by rw [f3 a (by omega) (by omega) (by omega), g1 a (by omega) (by omega), f1 a (by omega) (by omega) (by omega) (by omega)]) ⟨fun t ht => by rw [f3 (o + 1) (by omega) (by omega) (by omega), g2 t ht, cg t ht], E3, fun t a0 a1 => by rw [f3 (o + 3) (by omega) (by omega) (by omega), g1 (o + 3) (by omega) (by omega)]; exact (c1 t a0 a1).2.1, fun t a0 a1 => by rw [f3 (o + 4) (by omega) (by omega) (by omega), g1 (o + 4) (by omega) (by omega)]; exact (c1 t a0 a1).2.2⟩
def CCap (l : Nat → Nat) (o C : Nat) : Prop := ln l (o + 5) = C ∧ ln l (o + 6) = C ∧ ln l (o + 7) = C
theorem choose_ok {o N C C2 : Nat} {tol hv cr : Int} (hs : isCh o) (hN : (N : Int) = 2 * σ 17 0) (hc : 0 ≤ σ 17 0 ∧ σ 17 0 ≤ 2187 ∧ σ 17 0 ≤ C) (hFC : FCap l C) (hFG : FG σ C) (hcen : ∀ r, 0 ≤ r → r < σ 17 0 → 0 ≤ σ 22 r ∧ σ 22 r ≤ 4800) (htol : 0 ≤ tol ∧ tol ≤ 100) (hv9 : 0 ≤ hv ∧ hv ≤ 9) (cr9 : 0 ≤ cr ∧ cr ≤ 9) (hCC : CCap l o C2) :
    Fu g zX0_choose (if C2 < N then 3 else 0) (if C2 < N then 3 * N else 0) [.ref o, .ref 17, iv tol, iv hv, iv cr] σ l (fun σ' l' => (∀ a, a < o + 1 ∨ o + 7 < a → σ' a = σ a) ∧ ChO σ' o (teP (σ 22) (σ 17 0) tol hv cr) (tnP (σ 22) (σ 17 0) tol) (σ 17 0) N ∧ CCap l' o (max C2 N) ∧ ∀ a, a < o + 5 ∨ o + 7 < a → l' a = l a) := by
  have ho := hs.2.1
  have hC2 : C2 ≤ 400000 := by rw [← hCC.1]; exact ln_le _ _
  refine Fn.of [some (.ref o), some (.ref 17), some (iv tol), some (iv hv), some (iv cr), none, none, none] rfl (by decide) (Nat.le_of_ble_eq_true rfl) rfl ?_
  by_cases hg : C2 < N
  · rw [if_pos hg, if_pos hg]
    have emax : max C2 N = N := by omega
    rw [emax]
    refine g_iconst dX0_choose_0 ?_
    refine g_aload1 dX0_choose_1 ?_
    refine f_geti (J := 0) rfl (by decide) rfl rfl fl_X0_33 dX0_choose_2 ?_
    refine g_imul dX0_choose_5 ?_
    rw [← hN]
    refine g_istore5 dX0_choose_6 rfl (by decide) ?_
    refine g_iload5 dX0_choose_8 ?_
    refine g_aload0 dX0_choose_10 ?_
    refine f_getr (r := o + 6) hs.1 (hs.lt 0 (by decide)) rfl rfl fl_X0_27 dX0_choose_11 ?_
    refine f_alen (by rw [hs.k6]; decide) (hs.lt 6 (by decide)) dX0_choose_14 ?_
    rw [hCC.2.1]
    refine g_icmp_le ⟨by omega, by omega⟩ ⟨by omega, by omega⟩ (tgt := 42) dX0_choose_15 rfl (fun h15 => absurd h15 (by omega)) (fun h15 => ?_)
    refine g_aload0 dX0_choose_18 ?_
    refine g_iload5 dX0_choose_19 ?_
    refine f_newput (r := o + 5) (by decide) hs.1 (hs.lt 0 (by decide)) rfl rfl hs.2.2.2.2.2.2.2.2.2.2.2.2.2.2.1 hs.k5 (hs.lt 5 (by decide)) fl_X0_24 (fun _ _ _ h => by cases h; rfl) rfl ⟨⟨okCh hs, (show okV 110 (.ref 17) from okVb_of rfl), trivial, trivial, trivial, trivial, trivial, trivial, trivial⟩, trivial⟩ (by omega) dX0_choose_21 dX0_choose_23 (by omega) (by omega) ?_
    refine g_aload0 dX0_choose_26 ?_
    refine g_iload5 dX0_choose_27 ?_
    refine f_newput (r := o + 6) (by decide) hs.1 (hs.lt 0 (by decide)) rfl rfl hs.2.2.2.2.2.2.2.2.2.2.2.2.2.2.2.1 hs.k6 (hs.lt 6 (by decide)) fl_X0_27 (fun _ _ _ h => by cases h; rfl) rfl ⟨⟨okCh hs, (show okV 110 (.ref 17) from okVb_of rfl), trivial, trivial, trivial, trivial, trivial, trivial, trivial⟩, trivial⟩ (by omega) dX0_choose_29 dX0_choose_31 (by omega) (by omega) ?_
    refine g_aload0 dX0_choose_34 ?_
    refine g_iload5 dX0_choose_35 ?_
    refine f_newput (r := o + 7) (by decide) hs.1 (hs.lt 0 (by decide)) rfl rfl hs.2.2.2.2.2.2.2.2.2.2.2.2.2.2.2.2 hs.k7 (hs.lt 7 (by decide)) fl_X0_30 (fun _ _ _ h => by cases h; rfl) rfl ⟨⟨okCh hs, (show okV 110 (.ref 17) from okVb_of rfl), trivial, trivial, trivial, trivial, trivial, trivial, trivial⟩, trivial⟩ (by omega) dX0_choose_37 dX0_choose_39 (by omega) (by omega) ?_
    have n5 : ln (upl (upl (upl l (o + 5) N) (o + 6) N) (o + 7) N) (o + 5) = N := by rcases ho with rfl | rfl <;> (show min (upl (upl (upl l _ N) _ N) _ N _) 400000 = N; unfold upl; simp <;> omega)
    have n6 : ln (upl (upl (upl l (o + 5) N) (o + 6) N) (o + 7) N) (o + 6) = N := by rcases ho with rfl | rfl <;> (show min (upl (upl (upl l _ N) _ N) _ N _) 400000 = N; unfold upl; simp <;> omega)
    have n7 : ln (upl (upl (upl l (o + 5) N) (o + 6) N) (o + 7) N) (o + 7) = N := by rcases ho with rfl | rfl <;> (show min (upl (upl (upl l _ N) _ N) _ N _) 400000 = N; unfold upl; simp <;> omega)
    have lo : ∀ a, a < o + 5 ∨ o + 7 < a → upl (upl (upl l (o + 5) N) (o + 6) N) (o + 7) N a = l a := fun a ha => by unfold upl; rw [if_neg (by omega), if_neg (by omega), if_neg (by omega)]
    have zo : ∀ a, a < o + 5 ∨ o + 7 < a → upz (upz (upz σ (o + 5)) (o + 6)) (o + 7) a = σ a := fun a ha => by funext b; unfold upz; rw [if_neg (by omega), if_neg (by omega), if_neg (by omega)]
    have z17 := zo 17 (by omega)
    have z22 := zo 22 (by omega)
    have hFC' : FCap (upl (upl (upl l (o + 5) N) (o + 6) N) (o + 7) N) C := by
      unfold FCap ln at *
      rw [lo 18 (by omega), lo 19 (by omega), lo 20 (by omega), lo 21 (by omega), lo 22 (by omega)]
      exact hFC
    generalize upl (upl (upl l (o + 5) N) (o + 6) N) (o + 7) N = l2 at *
    generalize hσ2 : upz (upz (upz σ (o + 5)) (o + 6)) (o + 7) = σ2 at *
    refine choose_tail (σ := σ2) (C := C) hs (by rw [z17]; exact hN) (by rw [z17]; exact hc) hFC' (fun p a0 a1 => by unfold FG1; rw [zo 18 (by omega), zo 19 (by omega), zo 20 (by omega)]; exact hFG p a0 a1) (by rw [z17, z22]; exact hcen) htol hv9 cr9 (by rw [n5, n6, n7]; exact ⟨Nat.le_refl _, Nat.le_refl _, Nat.le_refl _⟩) (fun τ f h => ?_)
    rw [z17, z22] at h
    exact ⟨rfl, fun a ha => by rw [f a ha, zo a (by omega)], h, ⟨n5, n6, n7⟩, lo⟩
  · rw [if_neg hg, if_neg hg]
    have emax : max C2 N = C2 := by omega
    rw [emax]
    refine g_iconst dX0_choose_0 ?_
    refine g_aload1 dX0_choose_1 ?_
    refine f_geti (J := 0) rfl (by decide) rfl rfl fl_X0_33 dX0_choose_2 ?_
    refine g_imul dX0_choose_5 ?_
    rw [← hN]
    refine g_istore5 dX0_choose_6 rfl (by decide) ?_
    refine g_iload5 dX0_choose_8 ?_
    refine g_aload0 dX0_choose_10 ?_
    refine f_getr (r := o + 6) hs.1 (hs.lt 0 (by decide)) rfl rfl fl_X0_27 dX0_choose_11 ?_
    refine f_alen (by rw [hs.k6]; decide) (hs.lt 6 (by decide)) dX0_choose_14 ?_
    rw [hCC.2.1]
    refine g_icmp_le ⟨by omega, by omega⟩ ⟨by omega, by omega⟩ (tgt := 42) dX0_choose_15 rfl (fun h15 => ?_) (fun h15 => absurd h15 (by omega))
    refine choose_tail (C := C) hs hN hc hFC hFG hcen htol hv9 cr9 (by rw [hCC.1, hCC.2.1, hCC.2.2]; omega) (fun τ f h => ?_)
    exact ⟨rfl, f, h, hCC, fun a _ => rfl⟩
end C29
