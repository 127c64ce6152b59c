/-! Way.reckonRow -/
section C40
variable {g : gT} {σ : sT} {l : Nat → Nat}
def uRow (tu : Int → Int) (TE : Int → Int) (H n : Nat) (b : Int) (j : Nat) : Bool := decide (j + 1 < n) && decide (tu (j + 1) ≠ -1) && decide (2 * 3 ^ H * (H + 1) < 3 * (EP TE (2 * 3 ^ H) (tu j + b)).length * (EP TE (2 * 3 ^ H) (tu (j + 1) + b)).length)
/-- where a note's costs begin -/
abbrev rwF (σ : sT) (o : Nat) (b : Int) (k : Nat) : Int := frI (nC (σ 4) (σ (o + 1)) b) k
theorem reckonRow_core {k0 n0 w o H n j A5 : Nat} {b : Int} {TE T f : Int → Int} {Ψ : mO → sT → (Nat → Nat) → Prop} (hw : isWy w) (hs : isCh o) (hCh : ChO σ o TE T ((3 ^ H : Nat) : Int) (2 * 3 ^ H)) (hH : σ 1 8 = (H : Int)) (hH7 : H ≤ 7) (hn : σ 1 9 = (n : Int)) (hn40 : n ≤ 40) (hj : j < n) (ht : ∀ k, 0 ≤ k → k < (n : Int) → -1 ≤ σ 4 k ∧ σ 4 k ≤ 24) (hb : -12 ≤ b ∧ b ≤ 12) (hl6 : 2 * 3 ^ H ≤ ln l (o + 6)) (hl7 : 2 * 3 ^ H ≤ ln l (o + 7)) (hm : 0 ≤ σ 1 5 ∧ σ 1 5 ≤ 9) (hh : 0 ≤ σ 1 6 ∧ σ 1 6 ≤ 9) (hbr : 0 ≤ σ 1 7 ∧ σ 1 7 ≤ 9)
    (hj0 : σ 4 j ≠ -1) (hrows : ∀ k : Nat, k < n → σ (w + 3) k = rwF σ o b k) (hlen : rwF σ o b n ≤ (ln l (w + 4) : Int)) (hA5 : ln l (w + 5) = A5)
    (hnx : j + 1 < n → σ 4 (j + 1) ≠ -1 → ∀ i q : Nat, (EP TE (2 * 3 ^ H) (σ 4 (j + 1) + b))[i]? = some q → σ (w + 4) (rwF σ o b (j + 1) + i) = f q ∧ 0 ≤ f q ∧ f q ≤ 1000000)
    (hbud : uRow (σ 4) TE H n b j = true → A5 < 2 * 3 ^ H → 1 ≤ k0 ∧ 2 * 3 ^ H ≤ n0)
    (hΨ : ∀ (τ : sT) (l' : Nat → Nat), (∀ a, a ≠ w + 4 → a ≠ w + 5 → τ a = σ a) → (∀ i q : Nat, (EP TE (2 * 3 ^ H) (σ 4 j + b))[i]? = some q → τ (w + 4) (rwF σ o b j + i) = if j + 1 < n ∧ σ 4 (j + 1) ≠ -1 then leastTo (coD (σ 1 5) (σ 1 6) (σ 1 7) H) f (EP TE (2 * 3 ^ H) (σ 4 (j + 1) + b)) q else 0) → (∀ p, (p < rwF σ o b j ∨ rwF σ o b (j + 1) ≤ p) → τ (w + 4) p = σ (w + 4) p) → ln l' (w + 5) = (if uRow (σ 4) TE H n b j = true then max A5 (2 * 3 ^ H) else A5) → (∀ a, a ≠ w + 5 → l' a = l a) → Ψ (.inl none) τ l') :
    FW g zX4_reckonRow k0 n0 Ψ 0 [some (.ref w), some (.ref 1), some (.ref o), some (iv (j : Int)), some (iv b), none, none, none] [] σ l := by
  have hwo := hw.2.1
  have hso := hs.2.1
  have hp0 := p3_pos H
  have hple := p3_le hH7
  have hNe : ((2 * 3 ^ H : Nat) : Int) = 2 * ((3 ^ H : Nat) : Int) := by push_cast; rfl
  have hNn : 2 * 3 ^ H ≤ 4374 := by omega
  have htj := ht j (by omega) (by omega)
  obtain ⟨fA, hfA, hcA, hcA4, hfA0, hfA1, hqA⟩ := tone_of (l := l) hs hCh hNn (σ 4 j + b)
  have ecA : nC (σ 4) (σ (o + 1)) b j = ((EP TE (2 * 3 ^ H) (σ 4 j + b)).length : Int) := by unfold nC; rw [if_neg hj0, hcA]
  have hnc : ∀ z : Nat, z < n → 0 ≤ nC (σ 4) (σ (o + 1)) b z ∧ nC (σ 4) (σ (o + 1)) b z ≤ 4374 := by
    intro z hz
    unfold nC
    split
    · omega
    · obtain ⟨_, _, a1, a2, _⟩ := tone_of (l := l) hs hCh hNn (σ 4 z + b)
      rw [a1]; omega
  have hmono : ∀ x y : Nat, x ≤ y → y ≤ n → rwF σ o b x ≤ rwF σ o b y := by
    intro x y hxy
    induction y with
    | zero => intro _; have : x = 0 := by omega
              subst this; exact Int.le_refl _
    | succ y ihy =>
      intro hy
      by_cases e : x = y + 1
      · rw [e]; exact Int.le_refl _
      · have a1 := ihy (by omega) (by omega)
        have a2 := hnc y (by omega)
        show _ ≤ frI (nC (σ 4) (σ (o + 1)) b) (y + 1)
        rw [frI_s]
        have : rwF σ o b y = frI (nC (σ 4) (σ (o + 1)) b) y := rfl
        omega
  have hR0 := (frI_bd j (fun z hz => hnc z (by omega)))
  have hR1 := (frI_bd (j + 1) (fun z hz => hnc z (by omega)))
  have hRs : rwF σ o b (j + 1) = rwF σ o b j + ((EP TE (2 * 3 ^ H) (σ 4 j + b)).length : Int) := by
    show frI (nC (σ 4) (σ (o + 1)) b) (j + 1) = _
    rw [frI_s, ecA]
  have hRn := hmono (j + 1) n (by omega) (Nat.le_refl _)
  have hRj : σ (w + 3) j = rwF σ o b j := hrows j hj
  have hRe : rwF σ o b j = frI (nC (σ 4) (σ (o + 1)) b) j := rfl
  have hRe1 : rwF σ o b (j + 1) = frI (nC (σ 4) (σ (o + 1)) b) (j + 1) := rfl
  -- no next note: zeros
  have zero : ¬ (j + 1 < n ∧ σ 4 (j + 1) ≠ -1) → FW g zX4_reckonRow k0 n0 Ψ 41 [some (.ref w), some (.ref 1), some (.ref o), some (iv (j : Int)), some (iv b), some (iv (σ 4 j + b)), some (iv ((EP TE (2 * 3 ^ H) (σ 4 j + b)).length : Int)), none] [] σ l := by
    intro hno
    have hu : ¬ (uRow (σ 4) TE H n b j = true) := by
      unfold uRow
      simp only [Bool.and_eq_true, decide_eq_true_eq]
      exact fun z => hno z.1
    have loop : ∀ q, q ≤ (EP TE (2 * 3 ^ H) (σ 4 j + b)).length → ∀ (i : Int) (τ : sT), i = (q : Int) → (∀ a, a ≠ w + 4 → τ a = σ a) → (∀ i : Nat, i < q → τ (w + 4) (rwF σ o b j + i) = 0) → (∀ p, (p < rwF σ o b j ∨ rwF σ o b j + q ≤ p) → τ (w + 4) p = σ (w + 4) p) → FW g zX4_reckonRow k0 n0 Ψ 44 [some (.ref w), some (.ref 1), some (.ref o), some (iv (j : Int)), some (iv b), some (iv (σ 4 j + b)), some (iv ((EP TE (2 * 3 ^ H) (σ 4 j + b)).length : Int)), some (iv i)] [] τ l := by
      refine loopUp _ (fun q hq ih i τ hi hfr hI hU => ?_)
      subst hi
      have e3 : τ (w + 3) = σ (w + 3) := hfr (w + 3) (by omega)
      refine g_iload7 dX4_reckonRow_44 ?_
      refine g_iload6 dX4_reckonRow_46 ?_
      refine g_icmp_ge ⟨by omega, by omega⟩ ⟨by omega, by omega⟩ (tgt := 76) dX4_reckonRow_48 rfl (fun h48 => ?_) (fun h48 => ?_)
      · refine g_return rfl dX4_reckonRow_76 ?_
        have eq : q = (EP TE (2 * 3 ^ H) (σ 4 j + b)).length := by omega
        subst eq
        refine fn_ret (hΨ τ l (fun a a4 a5 => hfr a a4) (fun i q2 hq2 => ?_) (fun p hp => hU p (by omega)) (by rw [if_neg hu]; exact hA5) (fun a _ => rfl))
        rw [if_neg hno]
        exact hI i (List.getElem?_eq_some_iff.mp hq2).1
      · refine g_aload0 dX4_reckonRow_51 ?_
        refine f_getr (r := w + 4) hw.1 (hw.lt 0 (by decide)) rfl rfl fl_X4_25 dX4_reckonRow_52 ?_
        refine g_aload0 dX4_reckonRow_55 ?_
        refine f_getr (r := w + 3) hw.1 (hw.lt 0 (by decide)) rfl rfl fl_X4_22 dX4_reckonRow_56 ?_
        refine g_iload3 dX4_reckonRow_59 ?_
        refine f_cS2w (atI hw.k3 (hw.lt 3 (by decide)) (by omega) (by rw [hw.n3]; omega)) oY_X5_at oT_X5_at lk_X4_58 rfl dX4_reckonRow_60 rfl (Or.inl rfl) ?_
        rw [e3, hRj]
        refine g_iload7 dX4_reckonRow_63 ?_
        refine g_iadd dX4_reckonRow_65 ?_
        refine g_iconst dX4_reckonRow_66 ?_
        refine f_cS3d (putI hw.k4 (hw.lt 4 (by decide)) (by omega) (by omega)) oY_X5_put oT_X5_put lk_X4_51 rfl dX4_reckonRow_67 rfl (Or.inl rfl) ?_
        refine g_iinc7 dX4_reckonRow_70 rfl (by decide) ?_
        refine g_goto (tgt := 44) dX4_reckonRow_73 rfl ?_
        refine ih (by omega) _ _ (by push_cast; omega) (fun a ha => by rw [up_n ha]; exact hfr a ha) (fun i hi => ?_) (fun p hp => ?_)
        · by_cases c0 : i = q
          · rw [c0, up_eq]
          · rw [up_ne (by omega)]
            exact hI i (by omega)
        · rw [up_ne (by omega)]
          exact hU p (by omega)
    refine g_iconst dX4_reckonRow_41 ?_
    refine g_istore7 dX4_reckonRow_42 rfl (by decide) ?_
    exact loop 0 (Nat.zero_le _) _ _ rfl (fun a ha => rfl) (fun i hi => by omega) (fun p hp => rfl)
  refine g_aload1 dX4_reckonRow_0 ?_
  refine f_getr (r := 4) rfl (by decide) rfl rfl fl_X4_55 dX4_reckonRow_1 ?_
  refine g_iload3 dX4_reckonRow_4 ?_
  refine f_cS2w (atI rfl (by decide) (by omega) (by show (j : Int) < (40 : Nat); omega)) oY_X5_at oT_X5_at lk_X4_58 rfl dX4_reckonRow_5 rfl (Or.inl rfl) ?_
  refine g_iload4 dX4_reckonRow_8 ?_
  refine g_iadd dX4_reckonRow_10 ?_
  refine g_istore5 dX4_reckonRow_11 rfl (by decide) ?_
  refine g_aload2 dX4_reckonRow_13 ?_
  refine g_iload5 dX4_reckonRow_14 ?_
  refine f_cV1w (countOf_ok hs ⟨by omega, by omega⟩) hs.1 (hs.lt 0 (by decide)) rfl oY_X0_countOf oI_X0_countOf lk_X4_62 rfl dX4_reckonRow_16 rfl (Or.inl rfl) ?_
  rw [hcA]
  refine g_istore6 dX4_reckonRow_19 rfl (by decide) ?_
  refine g_iload3 dX4_reckonRow_21 ?_
  refine g_iconst dX4_reckonRow_22 ?_
  refine g_iadd dX4_reckonRow_23 ?_
  refine g_aload1 dX4_reckonRow_24 ?_
  refine f_geti (J := 9) rfl (by decide) rfl rfl fl_X4_35 dX4_reckonRow_25 ?_
  rw [hn]
  refine g_icmp_ge ⟨by omega, by omega⟩ ⟨by omega, by omega⟩ (tgt := 41) dX4_reckonRow_28 rfl (fun h28 => ?_) (fun h28 => ?_)
  · first
      | exact zero (fun z => by omega)
      | exact zero (fun z => z.2 h38)
  · refine g_aload1 dX4_reckonRow_31 ?_
    refine g_iload3 dX4_reckonRow_32 ?_
    refine g_iconst dX4_reckonRow_33 ?_
    refine g_iadd dX4_reckonRow_34 ?_
    refine f_cV1w (isRest_ok isSt1 ⟨by omega, by omega⟩ (by have a1 := ht ((j : Int) + 1) (by omega) (by omega); exact ⟨by show -2147483648 ≤ σ 4 _; omega, by show σ 4 _ ≤ 2147483647; omega⟩)) rfl (by decide) rfl oY_X3_isRest oI_X3_isRest lk_X4_40 rfl dX4_reckonRow_35 rfl (Or.inl rfl) ?_
    rw [show bv (σ (1 + 3) ((j : Int) + 1) = -1) = bv (σ 4 ((j : Int) + 1) = -1) from rfl]
    refine g_ifeqB (tgt := 77) dX4_reckonRow_38 rfl (fun h38 => ?_) (fun h38 => ?_)
    · have hno : j + 1 < n ∧ σ 4 (j + 1) ≠ -1 := ⟨by omega, h38⟩
      have htn := ht ((j : Int) + 1) (by omega) (by omega)
      obtain ⟨fB, hfB, hcB, hcB4, hfB0, hfB1, hqB⟩ := tone_of (l := l) hs hCh hNn (σ 4 ((j : Int) + 1) + b)
      have hnx1 := hnx hno.1 hno.2
      have hRj1 : σ (w + 3) ((j : Int) + 1) = rwF σ o b (j + 1) := by have := hrows (j + 1) hno.1; push_cast at this; exact this
      have ecB : nC (σ 4) (σ (o + 1)) b (j + 1 : Nat) = ((EP TE (2 * 3 ^ H) (σ 4 ((j : Int) + 1) + b)).length : Int) := by unfold nC; push_cast; rw [if_neg h38, hcB]
      have hRs1 : rwF σ o b (j + 2) = rwF σ o b (j + 1) + ((EP TE (2 * 3 ^ H) (σ 4 ((j : Int) + 1) + b)).length : Int) := by
        show frI (nC (σ 4) (σ (o + 1)) b) (j + 1 + 1) = _
        rw [frI_s, ecB]
      have hRn1 := hmono (j + 2) n (by omega) (Nat.le_refl _)
      have hprod : (EP TE (2 * 3 ^ H) (σ 4 j + b)).length * (EP TE (2 * 3 ^ H) (σ 4 ((j : Int) + 1) + b)).length ≤ 4374 * 4374 := Nat.mul_le_mul hcA4 hcB4
      have hprodI : 3 * ((EP TE (2 * 3 ^ H) (σ 4 j + b)).length : Int) * ((EP TE (2 * 3 ^ H) (σ 4 ((j : Int) + 1) + b)).length : Int) = ((3 * (EP TE (2 * 3 ^ H) (σ 4 j + b)).length * (EP TE (2 * 3 ^ H) (σ 4 ((j : Int) + 1) + b)).length : Nat) : Int) := by push_cast; rfl
      have hprod3 : 3 * (EP TE (2 * 3 ^ H) (σ 4 j + b)).length * (EP TE (2 * 3 ^ H) (σ 4 ((j : Int) + 1) + b)).length ≤ 3 * (4374 * 4374) := by rw [Nat.mul_assoc]; exact Nat.mul_le_mul_left 3 hprod
      have hpc : 2 * ((3 ^ H : Nat) : Int) * ((H : Int) + 1) = ((2 * 3 ^ H * (H + 1) : Nat) : Int) := by push_cast; rfl
      have hpc3 : 2 * 3 ^ H * (H + 1) ≤ 4374 * 8 := Nat.mul_le_mul hNn (by omega)
      generalize hLA : (EP TE (2 * 3 ^ H) (σ 4 j + b)) = LA at *
      generalize hLB : (EP TE (2 * 3 ^ H) (σ 4 ((j : Int) + 1) + b)) = LB at *
      have hgA : ∀ i : Nat, i < LA.length → fA + i < 2 * ((3 ^ H : Nat) : Int) ∧ σ (o + 6) (fA + i) = (LA.getD i 0 : Nat) ∧ σ (o + 7) (fA + i) = (cdP ((3 ^ H : Nat) : Int) (LA.getD i 0 : Nat) : Int) ∧ LA.getD i 0 < 2 * 3 ^ H := fun i hi => by
        have a1 := hqA i _ (getD_some hi)
        have a2 := (EP_lt (TE := TE) (N := 2 * 3 ^ H) (t := σ 4 j + b) (i := i) (q := LA.getD i 0) (by rw [hLA]; exact getD_some hi)).1
        exact ⟨by omega, a1.2.1, a1.2.2, a2⟩
      have hgB : ∀ i : Nat, i < LB.length → fB + i < 2 * ((3 ^ H : Nat) : Int) ∧ σ (o + 6) (fB + i) = (LB.getD i 0 : Nat) ∧ σ (o + 7) (fB + i) = (cdP ((3 ^ H : Nat) : Int) (LB.getD i 0 : Nat) : Int) ∧ LB.getD i 0 < 2 * 3 ^ H := fun i hi => by
        have a1 := hqB i _ (getD_some hi)
        have a2 := (EP_lt (TE := TE) (N := 2 * 3 ^ H) (t := σ 4 ((j : Int) + 1) + b) (i := i) (q := LB.getD i 0) (by rw [hLB]; exact getD_some hi)).1
        exact ⟨by omega, a1.2.1, a1.2.2, a2⟩
      have huv : uRow (σ 4) TE H n b j = true ↔ 2 * 3 ^ H * (H + 1) < 3 * LA.length * LB.length := by
        unfold uRow
        rw [hLA, hLB]
        simp only [Bool.and_eq_true, decide_eq_true_eq]
        exact ⟨fun z => z.2, fun z => ⟨⟨hno.1, hno.2⟩, z⟩⟩
      refine g_aload1 dX4_reckonRow_77 ?_
      refine f_getr (r := 4) rfl (by decide) rfl rfl fl_X4_55 dX4_reckonRow_78 ?_
      refine g_iload3 dX4_reckonRow_81 ?_
      refine g_iconst dX4_reckonRow_82 ?_
      refine g_iadd dX4_reckonRow_83 ?_
      refine f_cS2w (atI rfl (by decide) (by omega) (by show (j : Int) + 1 < (40 : Nat); omega)) oY_X5_at oT_X5_at lk_X4_58 rfl dX4_reckonRow_84 rfl (Or.inl rfl) ?_
      refine g_iload4 dX4_reckonRow_87 ?_
      refine g_iadd dX4_reckonRow_89 ?_
      refine g_istore7 dX4_reckonRow_90 rfl (by decide) ?_
      refine g_iconst dX4_reckonRow_92 ?_
      refine g_iload6 dX4_reckonRow_93 ?_
      refine g_imul dX4_reckonRow_95 ?_
      refine g_aload2 dX4_reckonRow_96 ?_
      refine g_iload7 dX4_reckonRow_97 ?_
      refine f_cV1w (countOf_ok hs ⟨by omega, by omega⟩) hs.1 (hs.lt 0 (by decide)) rfl oY_X0_countOf oI_X0_countOf lk_X4_62 rfl dX4_reckonRow_99 rfl (Or.inl rfl) ?_
      rw [hcB]
      refine g_imul dX4_reckonRow_102 ?_
      rw [hprodI]
      refine g_aload1 dX4_reckonRow_103 ?_
      refine f_cV0w (playCount_ok isSt1 (by rw [hH]; exact ⟨by omega, by omega⟩)) rfl (by decide) rfl oY_X3_playCount oI_X3_playCount lk_X4_74 rfl dX4_reckonRow_104 rfl (Or.inl rfl) ?_
      rw [hH, pw_nat (by omega)]
      refine g_aload1 dX4_reckonRow_107 ?_
      refine f_geti (J := 8) rfl (by decide) rfl rfl fl_X4_78 dX4_reckonRow_108 ?_
      rw [hH]
      refine g_iconst dX4_reckonRow_111 ?_
      refine g_iadd dX4_reckonRow_112 ?_
      refine g_imul dX4_reckonRow_113 ?_
      rw [hpc]
      refine g_icmp_gt ⟨by omega, by omega⟩ ⟨by omega, by omega⟩ (tgt := 131) dX4_reckonRow_114 rfl (fun h114 => ?_) (fun h114 => ?_)
      · refine g_aload0 dX4_reckonRow_131 ?_
        refine g_aload1 dX4_reckonRow_132 ?_
        refine g_aload2 dX4_reckonRow_133 ?_
        refine g_iload3 dX4_reckonRow_134 ?_
        refine g_iload5 dX4_reckonRow_135 ?_
        refine g_iload7 dX4_reckonRow_137 ?_
        refine f_cV5m (byHoles_ok (plA := fun i => (LA.getD i 0 : Nat)) (plB := fun i => (LB.getD i 0 : Nat)) (ahB := fun i => f (LB.getD i 0 : Nat)) (fA := fA) (fB := fB) hw hs hH hH7 ⟨by omega, by omega⟩ ⟨by omega, by omega⟩ ⟨by omega, by omega⟩ hcA hcB ⟨hcA4, hcB4⟩ hfA hfB ⟨hfA0, hfA1, hfB0, hfB1⟩ (by rw [hRj, hRj1]; omega) hm hh hbr (fun i hi => ⟨by have := hgA i hi; omega, (hgA i hi).2.1, by omega, by have := (hgA i hi).2.2.2; omega⟩) (fun i hi => ⟨by have := hgB i hi; omega, (hgB i hi).2.1, by omega, by have := (hgB i hi).2.2.2; omega⟩) (by rw [hRj]; omega) hA5 (fun i hi => by rw [hRj1]; have a1 := hnx1 i _ (getD_some hi); exact ⟨by omega, a1.1, a1.2.1, a1.2.2⟩)) hw.1 (hw.lt 0 (by decide)) rfl oY_X4_reckonByHoles oI_X4_reckonByHoles lk_X4_85 rfl dX4_reckonRow_139 (by split; exact (hbud (by rw [huv]; omega) (by assumption)).1; omega) (by split; exact (hbud (by rw [huv]; omega) (by assumption)).2; omega) rfl (Or.inr ⟨⟨⟨Or.inl (hw.lt 0 (by decide)), hw.ow⟩, (show okV 110 (.ref 1) from okVb_of rfl), ⟨Or.inl (hs.lt 0 (by decide)), hs.ow⟩, trivial, trivial, trivial, trivial, trivial, trivial⟩, trivial⟩) (fun σ139 l139 h139 => ?_)
        obtain ⟨f2, g2, u2, n2, m2⟩ := h139
        refine g_return rfl dX4_reckonRow_142 ?_
        have huT : uRow (σ 4) TE H n b j = true := by rw [huv]; omega
        refine fn_ret (hΨ σ139 l139 f2 (fun i q hq => ?_) (fun p hp => by rw [u2 p (by rw [hRj]; omega)]) (by rw [if_pos huT]; exact n2) m2)
        (try rw [hLA] at hq)
        rw [if_pos hno]
        (try rw [hLB])
        have hi := (List.getElem?_eq_some_iff.mp hq).1
        have eq : q = LA.getD i 0 := by have := getD_some hi; rw [hq] at this; exact Option.some.inj this
        have a1 := g2 i hi
        rw [hRj] at a1
        rw [a1, eq]
        unfold leastTo
        have b1 := (hgA i hi).2.2.2
        exact hoF_mn hm.1 hh.1 hbr.1 (fun z hz => ⟨by omega, by have := (hgB z hz).2.2.2; omega⟩) (fun x y hx hy e => by
          have c1 := getD_some hx
          have c2 := getD_some hy
          have c3 : LB.getD x 0 = LB.getD y 0 := by omega
          rw [c3] at c1
          rw [← hLB] at c1 c2
          exact EP_inj c1 c2) (fun z hz => (hnx1 z _ (getD_some hz)).2.2) (by omega) (by omega)
      · refine g_aload0 dX4_reckonRow_117 ?_
        refine g_aload1 dX4_reckonRow_118 ?_
        refine g_aload2 dX4_reckonRow_119 ?_
        refine g_iload3 dX4_reckonRow_120 ?_
        refine g_iload5 dX4_reckonRow_121 ?_
        refine g_iload7 dX4_reckonRow_123 ?_
        refine f_cV5m (byPairs_ok (cdA := fun i => cdP ((3 ^ H : Nat) : Int) (LA.getD i 0 : Nat)) (cdB := fun i => cdP ((3 ^ H : Nat) : Int) (LB.getD i 0 : Nat)) (fA := fA) (fB := fB) hw hs ⟨by omega, by omega⟩ ⟨by omega, by omega⟩ ⟨by omega, by omega⟩ hcA hcB ⟨hcA4, hcB4⟩ hfA hfB ⟨hfA0, hfA1, hfB0, hfB1⟩ (by rw [hRj, hRj1]; omega) hm hh hbr (fun i hi => ⟨by have := hgA i hi; omega, (hgA i hi).2.2.1, cdP_lt _ _⟩) (fun i hi => ⟨by have := hgB i hi; omega, (hgB i hi).2.2.1, cdP_lt _ _⟩) (by rw [hRj]; omega) (fun i hi => by rw [hRj1]; have a1 := hnx1 i _ (getD_some hi); rw [a1.1]; omega)) hw.1 (hw.lt 0 (by decide)) rfl oY_X4_reckonByPairs oI_X4_reckonByPairs lk_X4_81 rfl dX4_reckonRow_125 (by omega) (by omega) rfl (Or.inl rfl) (fun σ125 l125 h125 => ?_)
        obtain ⟨f2, g2, u2, rfl⟩ := h125
        refine g_goto (tgt := 142) dX4_reckonRow_128 rfl ?_
        refine g_return rfl dX4_reckonRow_142 ?_
        have huF : ¬ (uRow (σ 4) TE H n b j = true) := by rw [huv]; omega
        refine fn_ret (hΨ σ125 l125 (fun a a4 a5 => f2 a a4) (fun i q hq => ?_) (fun p hp => by rw [u2 p (by rw [hRj]; omega)]) (by rw [if_neg huF]; exact hA5) (fun a _ => rfl))
        (try rw [hLA] at hq)
        rw [if_pos hno]
        (try rw [hLB])
        have hi := (List.getElem?_eq_some_iff.mp hq).1
        have eq : q = LA.getD i 0 := by have := getD_some hi; rw [hq] at this; exact Option.some.inj this
        have a1 := g2 i hi
        rw [hRj] at a1
        rw [a1, eq]
        unfold leastTo
        have hmc : ∀ nn, nn ≤ LB.length → mnN (fun z => prC (σ 1 5) (σ 1 6) (σ 1 7) (cdP ((3 ^ H : Nat) : Int) (LA.getD i 0 : Nat)) (cdP ((3 ^ H : Nat) : Int) (LB.getD z 0 : Nat)) + σ (w + 4) (σ (w + 3) ((j : Int) + 1) + z)) nn = mnN (fun z => coD (σ 1 5) (σ 1 6) (σ 1 7) H (LA.getD i 0 : Nat) (LB.getD z 0 : Nat) + f (LB.getD z 0 : Nat)) nn := by
          intro nn
          induction nn with
          | zero => intro _; rfl
          | succ nn ihn =>
            intro hnn
            have b1 := (hgA i hi).2.2.2
            have b2 := (hgB nn (by omega)).2.2.2
            have b3 := (hnx1 nn _ (getD_some (by omega))).1
            show min _ (prC (σ 1 5) (σ 1 6) (σ 1 7) (cdP ((3 ^ H : Nat) : Int) (LA.getD i 0 : Nat)) (cdP ((3 ^ H : Nat) : Int) (LB.getD nn 0 : Nat)) + σ (w + 4) (σ (w + 3) ((j : Int) + 1) + nn)) = min _ (coD (σ 1 5) (σ 1 6) (σ 1 7) H (LA.getD i 0 : Nat) (LB.getD nn 0 : Nat) + f (LB.getD nn 0 : Nat))
            rw [ihn (by omega), prC_coD hH7 (by omega) (by omega) (by omega) (by omega), hRj1, b3]
        exact hmc LB.length (Nat.le_refl _)
    · first
        | exact zero (fun z => by omega)
        | exact zero (fun z => z.2 h38)
end C40
