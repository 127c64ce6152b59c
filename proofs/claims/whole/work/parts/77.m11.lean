/-! The model's questions: bestBy, meanCost, idle -/
section C77
variable {g : gT} {σ : sT} {l : Nat → Nat}
theorem LdP.fr {τ : sT} {s : Int → Int} (h : LdP σ s) (hf : ∀ a, a ≠ 102 → a ≠ 103 → τ a = σ a) : LdP τ s := ⟨fun k a b => by rw [hf 98 (by decide) (by decide)]; exact h.1 k a b, fun p a b => by rw [hf 99 (by decide) (by decide), hf 100 (by decide) (by decide), hf 101 (by decide) (by decide)]; exact h.2 p a b⟩
theorem wBb_s (s : Int → Int) (j : Nat) : wBb s (j + 1) = if wOc s (wTe s) (bkF j) ≠ -1 ∧ wOc s (wTe s) (bkF j) < (wBb s j).2 then (bkF j, wOc s (wTe s) (bkF j)) else wBb s j := rfl
theorem wBb_e {B : Int} {s : Int → Int} (ho : SOK B s) : ∀ j, j ≤ 13 → (wBb s j = (-99, 1000000) ∨ (-12 ≤ (wBb s j).1 ∧ (wBb s j).1 ≤ 12 ∧ 0 ≤ (wBb s j).2 ∧ (wBb s j).2 ≤ 2880)) := by
  intro j
  induction j with
  | zero => intro _; exact Or.inl rfl
  | succ j ih =>
    intro hj
    have h1 := bkF_rng (j := j) (by omega)
    have h2 := wOc_rng (TE := wTe s) (b := bkF j) ho
    rw [wBb_s]
    by_cases c : wOc s (wTe s) (bkF j) ≠ -1 ∧ wOc s (wTe s) (bkF j) < (wBb s j).2
    · rw [if_pos c]
      exact Or.inr ⟨h1.1, h1.2, show 0 ≤ wOc s (wTe s) (bkF j) by omega, h2.2⟩
    · rw [if_neg c]
      exact ih (by omega)
theorem bk_even {q : Nat} (h : (q : Int) % 2 ≠ 1) : (-(q : Int)).tdiv 2 = bkF q := by
  unfold bkF
  rw [if_neg h, Int.neg_tdiv, Int.tdiv_eq_ediv_of_nonneg (by omega)]
  omega
theorem bk_odd {q : Nat} (h : (q : Int) % 2 = 1) : ((q : Int) + 1) / 2 = bkF q := by
  unfold bkF
  rw [if_pos h]
theorem bestBy_q {B : Int} {s : Int → Int} (ho : SOK B s) (hs : σ 93 = s)  : Fo g zX6_bestBy [.ref 92] σ l (iv (wBb s 13).1) 0 := by
  have hs0 : up σ 92 6 0 93 = s := (up_n (by decide)).trans hs
  have hM0 : Md σ (up σ 92 6 0) := md_th (Md.refl σ)
  have he0 : up σ 92 6 0 92 6 = 0 := up_eq
  have hp3 := p3_le ho.h7
  have hp0 := p3_pos (wH s)
  have hn40 := ho.n40
  have hnI := ho.nI
  have hH7 := ho.h7
  have hHI := ho.hI
  have hb4 := ho.halves
  have hb5 := ho.crosses
  refine Fn.of [some (.ref 92), none, none, none, none, none] rfl (by decide) (Nat.le_of_ble_eq_true rfl) rfl ?_
  refine g_aload0 dX6_bestBy_0 ?_
  refine g_iconst dX6_bestBy_1 ?_
  refine f_puti (J := 6) rfl (by decide) rfl rfl fl_X6_66 rfl (fun _ _ _ h => by cases h; rfl) dX6_bestBy_2 ?_
  refine g_aload0 dX6_bestBy_5 ?_
  refine f_cV0m (laysP ho hs0) rfl (by decide) rfl oY_X6_laysPlays oI_X6_laysPlays lk_X6_177 rfl dX6_bestBy_6 (by omega) (by omega) rfl (Or.inl rfl) (fun σ6 l6 h6 => ?_)
  have el1 := h6.1
  subst el1
  have hM1 := hM0.trans h6.2.1
  have he1 : σ6 92 6 = 0 := by rw [h6.2.2.2]; exact he0
  have hL1 := h6.2.2.1
  have hs1 := hM1.s hs
  refine g_bipush dX6_bestBy_9 (by decide) ?_
  refine g_istore1 dX6_bestBy_11 rfl (by decide) ?_
  refine g_iconst dX6_bestBy_12 ?_
  refine g_istore2 dX6_bestBy_13 rfl (by decide) ?_
  refine g_iconst dX6_bestBy_14 ?_
  refine g_istore3 dX6_bestBy_15 rfl (by decide) ?_
  have loop : ∀ q : Nat, q ≤ 13 → ∀ (i be le : Int) (u4 u5 : Option Value) (ρ : sT), i = (q : Int) → Md σ ρ → ρ 92 6 = 0 → LdP ρ s → ((wBb s q = (-99, 1000000) ∧ be = -99 ∧ le = 0) ∨ ((wBb s q).1 ≠ -99 ∧ be = (wBb s q).1 ∧ le = (wBb s q).2)) → FW g zX6_bestBy 0 0 (fun o τ l' => o = .inl (some (iv (wBb s 13).1)) ∧ l' = l6 ∧ Md σ τ ∧ τ 92 6 = 0) 16 [some (.ref 92), some (iv be), some (iv le), some (iv i), u4, u5] [] ρ l6 := by
    refine loopUp _ (fun q hq2 ih i be le u4 u5 ρ hi hMr her hLr hle => ?_)
    subst hi
    have hsr := hMr.s hs
    have hwo := wOc_rng (TE := wTe s) (b := bkF q) ho
    have hbe := wBb_e ho q hq2
    have hbe2 : -99 ≤ be ∧ be ≤ 12 ∧ 0 ≤ le ∧ le ≤ 1000000 ∧ (be = -99 → (wBb s q).2 = 1000000) ∧ (be ≠ -99 → le = (wBb s q).2) := by
      rcases hle with ⟨y1, y2, y3⟩ | ⟨y1, y2, y3⟩
      · rw [y1]
        exact ⟨by omega, by omega, by omega, by omega, fun _ => rfl, fun z => absurd y2 z⟩
      · rcases hbe with z | z
        · rw [z] at y1; exact absurd rfl y1
        · exact ⟨by omega, by omega, by omega, by omega, fun w => absurd (y2.symm.trans w) y1, fun _ => y3⟩
    by_cases hq13 : q < 13
    · have hbk := bkF_rng hq13
      refine g_iload3 dX6_bestBy_16 ?_
      refine g_bipush dX6_bestBy_17 (by decide) ?_
      refine g_icmp_ge ⟨by omega, by omega⟩ ⟨by omega, by omega⟩ (tgt := 93) dX6_bestBy_19 rfl (fun h19 => absurd h19 (by omega)) (fun h19 => ?_)
      refine g_iload3 dX6_bestBy_22 ?_
      refine g_iconst dX6_bestBy_23 ?_
      refine g_irem ⟨by omega, by omega⟩ ⟨by decide, by decide⟩ dX6_bestBy_24 ?_
      refine g_iconst dX6_bestBy_25 ?_
      refine g_icmp_ne ⟨by omega, by omega⟩ ⟨by omega, by omega⟩ (tgt := 37) dX6_bestBy_26 rfl (fun h26 => ?_) (fun h26 => ?_)
      · refine g_iload3 dX6_bestBy_37 ?_
        refine g_ineg dX6_bestBy_38 ?_
        refine g_iconst dX6_bestBy_39 ?_
        refine g_idivT ⟨by omega, by omega⟩ ⟨by omega, by omega⟩ (by decide) dX6_bestBy_40 ?_
        rw [bk_even h26]
        refine g_istore4 dX6_bestBy_41 rfl (by decide) ?_
        refine g_aload0 dX6_bestBy_43 ?_
        refine g_iload4 dX6_bestBy_44 ?_
        refine g_aload0 dX6_bestBy_46 ?_
        refine f_getr (r := 93) rfl (by decide) rfl rfl fl_X6_7 dX6_bestBy_47 ?_
        try rw [hsr]
        refine g_iconst dX6_bestBy_50 ?_
        refine f_iald rfl (by decide) ⟨by omega, by show _ < ((67 : Nat) : Int); omega⟩ dX6_bestBy_51 ?_
        try rw [hsr]
        refine g_aload0 dX6_bestBy_52 ?_
        refine f_getr (r := 93) rfl (by decide) rfl rfl fl_X6_7 dX6_bestBy_53 ?_
        try rw [hsr]
        refine g_iconst dX6_bestBy_56 ?_
        refine f_iald rfl (by decide) ⟨by omega, by show _ < ((67 : Nat) : Int); omega⟩ dX6_bestBy_57 ?_
        try rw [hsr]
        refine f_cV3q (costFor_m ho hsr hLr hbk (by omega) (by omega)) rfl (by decide) rfl oY_X6_costFor oI_X6_costFor lk_X6_336 rfl dX6_bestBy_58 (by omega) (by omega) rfl (Or.inl rfl) (fun σ58 l58 h58 => ?_)
        have el2 := h58.1
        subst el2
        have hM2 : Md σ σ58 := hMr.trans ⟨fun a a0 a1 => h58.2 a (by omega) (by omega), fun j _ => by rw [h58.2 92 (by decide) (by decide)]⟩
        have he2 : σ58 92 6 = 0 := by rw [h58.2 92 (by decide) (by decide)]; exact her
        have hL2 : LdP σ58 s := hLr.fr h58.2
        rw [show wOc s (wTE s (s 4) (s 5)) (bkF q) = wOc s (wTe s) (bkF q) from rfl]
        refine g_istore5 dX6_bestBy_61 rfl (by decide) ?_
        refine g_iload5 dX6_bestBy_63 ?_
        refine g_iconst dX6_bestBy_65 ?_
        refine g_icmp_eq ⟨by omega, by omega⟩ ⟨by omega, by omega⟩ (tgt := 87) dX6_bestBy_66 rfl (fun h66 => ?_) (fun h66 => ?_)
        · refine g_iinc3 dX6_bestBy_87 rfl (by decide) ?_
          refine g_goto (tgt := 16) dX6_bestBy_90 rfl ?_
          first
            | exact ih (by omega) _ _ _ _ _ _ (by omega) hM2 he2 hL2 (by rw [wBb_s, if_neg (fun z => by omega)]; exact hle)
            | exact ih (by omega) _ _ _ _ _ _ (by omega) hM2 he2 hL2 (by rw [wBb_s, if_pos ⟨by omega, by omega⟩]; exact Or.inr ⟨show bkF q ≠ -99 by omega, rfl, rfl⟩)
        · refine g_iload1 dX6_bestBy_69 ?_
          refine g_bipush dX6_bestBy_70 (by decide) ?_
          refine g_icmp_eq ⟨by omega, by omega⟩ ⟨by omega, by omega⟩ (tgt := 81) dX6_bestBy_72 rfl (fun h72 => ?_) (fun h72 => ?_)
          · refine g_iload4 dX6_bestBy_81 ?_
            refine g_istore1 dX6_bestBy_83 rfl (by decide) ?_
            refine g_iload5 dX6_bestBy_84 ?_
            refine g_istore2 dX6_bestBy_86 rfl (by decide) ?_
            refine g_iinc3 dX6_bestBy_87 rfl (by decide) ?_
            refine g_goto (tgt := 16) dX6_bestBy_90 rfl ?_
            first
              | exact ih (by omega) _ _ _ _ _ _ (by omega) hM2 he2 hL2 (by rw [wBb_s, if_neg (fun z => by omega)]; exact hle)
              | exact ih (by omega) _ _ _ _ _ _ (by omega) hM2 he2 hL2 (by rw [wBb_s, if_pos ⟨by omega, by omega⟩]; exact Or.inr ⟨show bkF q ≠ -99 by omega, rfl, rfl⟩)
          · refine g_iload5 dX6_bestBy_75 ?_
            refine g_iload2 dX6_bestBy_77 ?_
            refine g_icmp_ge ⟨by omega, by omega⟩ ⟨by omega, by omega⟩ (tgt := 87) dX6_bestBy_78 rfl (fun h78 => ?_) (fun h78 => ?_)
            · refine g_iinc3 dX6_bestBy_87 rfl (by decide) ?_
              refine g_goto (tgt := 16) dX6_bestBy_90 rfl ?_
              first
                | exact ih (by omega) _ _ _ _ _ _ (by omega) hM2 he2 hL2 (by rw [wBb_s, if_neg (fun z => by omega)]; exact hle)
                | exact ih (by omega) _ _ _ _ _ _ (by omega) hM2 he2 hL2 (by rw [wBb_s, if_pos ⟨by omega, by omega⟩]; exact Or.inr ⟨show bkF q ≠ -99 by omega, rfl, rfl⟩)
            · refine g_iload4 dX6_bestBy_81 ?_
              refine g_istore1 dX6_bestBy_83 rfl (by decide) ?_
              refine g_iload5 dX6_bestBy_84 ?_
              refine g_istore2 dX6_bestBy_86 rfl (by decide) ?_
              refine g_iinc3 dX6_bestBy_87 rfl (by decide) ?_
              refine g_goto (tgt := 16) dX6_bestBy_90 rfl ?_
              first
                | exact ih (by omega) _ _ _ _ _ _ (by omega) hM2 he2 hL2 (by rw [wBb_s, if_neg (fun z => by omega)]; exact hle)
                | exact ih (by omega) _ _ _ _ _ _ (by omega) hM2 he2 hL2 (by rw [wBb_s, if_pos ⟨by omega, by omega⟩]; exact Or.inr ⟨show bkF q ≠ -99 by omega, rfl, rfl⟩)
      · refine g_iload3 dX6_bestBy_29 ?_
        refine g_iconst dX6_bestBy_30 ?_
        refine g_iadd dX6_bestBy_31 ?_
        refine g_iconst dX6_bestBy_32 ?_
        refine g_idiv ⟨by omega, by omega⟩ ⟨by decide, by decide⟩ dX6_bestBy_33 ?_
        rw [bk_odd h26]
        refine g_goto (tgt := 41) dX6_bestBy_34 rfl ?_
        refine g_istore4 dX6_bestBy_41 rfl (by decide) ?_
        refine g_aload0 dX6_bestBy_43 ?_
        refine g_iload4 dX6_bestBy_44 ?_
        refine g_aload0 dX6_bestBy_46 ?_
        refine f_getr (r := 93) rfl (by decide) rfl rfl fl_X6_7 dX6_bestBy_47 ?_
        try rw [hsr]
        refine g_iconst dX6_bestBy_50 ?_
        refine f_iald rfl (by decide) ⟨by omega, by show _ < ((67 : Nat) : Int); omega⟩ dX6_bestBy_51 ?_
        try rw [hsr]
        refine g_aload0 dX6_bestBy_52 ?_
        refine f_getr (r := 93) rfl (by decide) rfl rfl fl_X6_7 dX6_bestBy_53 ?_
        try rw [hsr]
        refine g_iconst dX6_bestBy_56 ?_
        refine f_iald rfl (by decide) ⟨by omega, by show _ < ((67 : Nat) : Int); omega⟩ dX6_bestBy_57 ?_
        try rw [hsr]
        refine f_cV3q (costFor_m ho hsr hLr hbk (by omega) (by omega)) rfl (by decide) rfl oY_X6_costFor oI_X6_costFor lk_X6_336 rfl dX6_bestBy_58 (by omega) (by omega) rfl (Or.inl rfl) (fun σ58 l58 h58 => ?_)
        have el2 := h58.1
        subst el2
        have hM2 : Md σ σ58 := hMr.trans ⟨fun a a0 a1 => h58.2 a (by omega) (by omega), fun j _ => by rw [h58.2 92 (by decide) (by decide)]⟩
        have he2 : σ58 92 6 = 0 := by rw [h58.2 92 (by decide) (by decide)]; exact her
        have hL2 : LdP σ58 s := hLr.fr h58.2
        rw [show wOc s (wTE s (s 4) (s 5)) (bkF q) = wOc s (wTe s) (bkF q) from rfl]
        refine g_istore5 dX6_bestBy_61 rfl (by decide) ?_
        refine g_iload5 dX6_bestBy_63 ?_
        refine g_iconst dX6_bestBy_65 ?_
        refine g_icmp_eq ⟨by omega, by omega⟩ ⟨by omega, by omega⟩ (tgt := 87) dX6_bestBy_66 rfl (fun h66 => ?_) (fun h66 => ?_)
        · refine g_iinc3 dX6_bestBy_87 rfl (by decide) ?_
          refine g_goto (tgt := 16) dX6_bestBy_90 rfl ?_
          first
            | exact ih (by omega) _ _ _ _ _ _ (by omega) hM2 he2 hL2 (by rw [wBb_s, if_neg (fun z => by omega)]; exact hle)
            | exact ih (by omega) _ _ _ _ _ _ (by omega) hM2 he2 hL2 (by rw [wBb_s, if_pos ⟨by omega, by omega⟩]; exact Or.inr ⟨show bkF q ≠ -99 by omega, rfl, rfl⟩)
        · refine g_iload1 dX6_bestBy_69 ?_
          refine g_bipush dX6_bestBy_70 (by decide) ?_
          refine g_icmp_eq ⟨by omega, by omega⟩ ⟨by omega, by omega⟩ (tgt := 81) dX6_bestBy_72 rfl (fun h72 => ?_) (fun h72 => ?_)
          · refine g_iload4 dX6_bestBy_81 ?_
            refine g_istore1 dX6_bestBy_83 rfl (by decide) ?_
            refine g_iload5 dX6_bestBy_84 ?_
            refine g_istore2 dX6_bestBy_86 rfl (by decide) ?_
            refine g_iinc3 dX6_bestBy_87 rfl (by decide) ?_
            refine g_goto (tgt := 16) dX6_bestBy_90 rfl ?_
            first
              | exact ih (by omega) _ _ _ _ _ _ (by omega) hM2 he2 hL2 (by rw [wBb_s, if_neg (fun z => by omega)]; exact hle)
              | exact ih (by omega) _ _ _ _ _ _ (by omega) hM2 he2 hL2 (by rw [wBb_s, if_pos ⟨by omega, by omega⟩]; exact Or.inr ⟨show bkF q ≠ -99 by omega, rfl, rfl⟩)
          · refine g_iload5 dX6_bestBy_75 ?_
            refine g_iload2 dX6_bestBy_77 ?_
            refine g_icmp_ge ⟨by omega, by omega⟩ ⟨by omega, by omega⟩ (tgt := 87) dX6_bestBy_78 rfl (fun h78 => ?_) (fun h78 => ?_)
            · refine g_iinc3 dX6_bestBy_87 rfl (by decide) ?_
              refine g_goto (tgt := 16) dX6_bestBy_90 rfl ?_
              first
                | exact ih (by omega) _ _ _ _ _ _ (by omega) hM2 he2 hL2 (by rw [wBb_s, if_neg (fun z => by omega)]; exact hle)
                | exact ih (by omega) _ _ _ _ _ _ (by omega) hM2 he2 hL2 (by rw [wBb_s, if_pos ⟨by omega, by omega⟩]; exact Or.inr ⟨show bkF q ≠ -99 by omega, rfl, rfl⟩)
            · refine g_iload4 dX6_bestBy_81 ?_
              refine g_istore1 dX6_bestBy_83 rfl (by decide) ?_
              refine g_iload5 dX6_bestBy_84 ?_
              refine g_istore2 dX6_bestBy_86 rfl (by decide) ?_
              refine g_iinc3 dX6_bestBy_87 rfl (by decide) ?_
              refine g_goto (tgt := 16) dX6_bestBy_90 rfl ?_
              first
                | exact ih (by omega) _ _ _ _ _ _ (by omega) hM2 he2 hL2 (by rw [wBb_s, if_neg (fun z => by omega)]; exact hle)
                | exact ih (by omega) _ _ _ _ _ _ (by omega) hM2 he2 hL2 (by rw [wBb_s, if_pos ⟨by omega, by omega⟩]; exact Or.inr ⟨show bkF q ≠ -99 by omega, rfl, rfl⟩)
    · have hq0 : q = 13 := by omega
      refine g_iload3 dX6_bestBy_16 ?_
      refine g_bipush dX6_bestBy_17 (by decide) ?_
      refine g_icmp_ge ⟨by omega, by omega⟩ ⟨by omega, by omega⟩ (tgt := 93) dX6_bestBy_19 rfl (fun h19 => ?_) (fun h19 => absurd h19 (by omega))
      refine g_iload1 dX6_bestBy_93 ?_
      refine g_iretI rfl dX6_bestBy_94 ?_
      subst hq0
      rcases hle with ⟨y1, y2, y3⟩ | ⟨y1, y2, y3⟩
      · exact Fo.ret (by rw [y2, y1]) hMr her
      · exact Fo.ret (by rw [y2]) hMr her
  exact loop 0 (by decide) _ _ _ _ _ _ rfl hM1 he1 hL1 (Or.inl ⟨rfl, rfl, rfl⟩)
def wCt (s : Int → Int) : Nat → Int
  | 0 => 0
  | k + 1 => wCt s k + (if 0 < k ∧ wTu s k ≠ -1 ∧ wTu s ((k : Int) - 1) ≠ -1 then 1 else 0)
theorem wCt_s (s : Int → Int) (r : Nat) : wCt s (r + 1 + 1) = wCt s (r + 1) + (if wTu s ((r + 1 : Nat) : Int) ≠ -1 ∧ wTu s (r : Int) ≠ -1 then 1 else 0) := by
  show wCt s (r + 1) + _ = _
  have e : ((r + 1 : Nat) : Int) - 1 = (r : Int) := by omega
  by_cases c : wTu s ((r + 1 : Nat) : Int) ≠ -1 ∧ wTu s (r : Int) ≠ -1
  · rw [if_pos c, if_pos ⟨by omega, c.1, by rw [e]; exact c.2⟩]
  · rw [if_neg c, if_neg (fun z => c ⟨z.2.1, by rw [← e]; exact z.2.2⟩)]
theorem wCt_rng (s : Int → Int) (n : Nat) : 0 ≤ wCt s n ∧ wCt s n ≤ n := by
  induction n with
  | zero => exact ⟨Int.le_refl _, Int.le_refl _⟩
  | succ n ih => unfold wCt; split <;> omega
theorem wCt_h {B : Int} {s : Int → Int} (ho : SOK B s) (hl : lkP s (wTe s) 0 0) : ∀ n, n ≤ wN s → wCt s n = wCh s n := by
  intro n
  induction n with
  | zero => intro _; rfl
  | succ n ih =>
    intro hn
    have h1 := wWp_iff ho hl (k := n) (by omega)
    rw [wCh_s, ← ih (by omega)]
    show wCt s n + _ = _
    by_cases e0 : n = 0
    · subst e0
      rw [if_neg (fun z => by omega), if_neg (fun z => z.1 rfl)]
    · have h2 := wWp_iff ho hl (k := n - 1) (by omega)
      rw [show n - 1 + 1 = n from by omega, show ((n - 1 : Nat) : Int) = (n : Int) - 1 from by omega] at h2
      by_cases c : wTu s n ≠ -1 ∧ wTu s ((n : Int) - 1) ≠ -1
      · rw [if_pos ⟨by omega, c⟩, if_pos ⟨h2.mpr c.2, h1.mpr c.1⟩]
      · rw [if_neg (fun z => c z.2), if_neg (fun z => c ⟨h1.mp z.2, h2.mp z.1⟩)]
theorem meanCost_q {B : Int} {s : Int → Int} (ho : SOK B s) (hs : σ 93 = s)  : Fo g zX6_meanCost [.ref 92] σ l (.double (wMc s)) 0 := by
  have hs0 : up σ 92 6 0 93 = s := (up_n (by decide)).trans hs
  have hM0 : Md σ (up σ 92 6 0) := md_th (Md.refl σ)
  have he0 : up σ 92 6 0 92 6 = 0 := up_eq
  have hp3 := p3_le ho.h7
  have hp0 := p3_pos (wH s)
  have hn40 := ho.n40
  have hnI := ho.nI
  have hH7 := ho.h7
  have hHI := ho.hI
  have hb4 := ho.halves
  have hb5 := ho.crosses
  have hti := wTot_iff ho
  have hTr := wTot_rng ho
  refine Fn.of [some (.ref 92), none, none, none] rfl (by decide) (Nat.le_of_ble_eq_true rfl) rfl ?_
  refine g_aload0 dX6_meanCost_0 ?_
  refine g_iconst dX6_meanCost_1 ?_
  refine f_puti (J := 6) rfl (by decide) rfl rfl fl_X6_66 rfl (fun _ _ _ h => by cases h; rfl) dX6_meanCost_2 ?_
  refine g_aload0 dX6_meanCost_5 ?_
  refine f_cV0m (laysP ho hs0) rfl (by decide) rfl oY_X6_laysPlays oI_X6_laysPlays lk_X6_177 rfl dX6_meanCost_6 (by omega) (by omega) rfl (Or.inl rfl) (fun σ6 l6 h6 => ?_)
  have el1 := h6.1
  subst el1
  have hM1 := hM0.trans h6.2.1
  have he1 : σ6 92 6 = 0 := by rw [h6.2.2.2]; exact he0
  have hL1 := h6.2.2.1
  have hs1 := hM1.s hs
  refine g_aload0 dX6_meanCost_9 ?_
  refine g_iconst dX6_meanCost_10 ?_
  refine g_aload0 dX6_meanCost_11 ?_
  refine f_getr (r := 93) rfl (by decide) rfl rfl fl_X6_7 dX6_meanCost_12 ?_
  try rw [hs1]
  refine g_iconst dX6_meanCost_15 ?_
  refine f_iald rfl (by decide) ⟨by omega, by show _ < ((67 : Nat) : Int); omega⟩ dX6_meanCost_16 ?_
  try rw [hs1]
  refine g_aload0 dX6_meanCost_17 ?_
  refine f_getr (r := 93) rfl (by decide) rfl rfl fl_X6_7 dX6_meanCost_18 ?_
  try rw [hs1]
  refine g_iconst dX6_meanCost_21 ?_
  refine f_iald rfl (by decide) ⟨by omega, by show _ < ((67 : Nat) : Int); omega⟩ dX6_meanCost_22 ?_
  try rw [hs1]
  refine f_cV3q (costFor_m ho hs1 hL1 ⟨by decide, by decide⟩ (by omega) (by omega)) rfl (by decide) rfl oY_X6_costFor oI_X6_costFor lk_X6_336 rfl dX6_meanCost_23 (by omega) (by omega) rfl (Or.inl rfl) (fun σ23 l23 h23 => ?_)
  have el2 := h23.1
  subst el2
  have hM2 : Md σ σ23 := hM1.trans ⟨fun a a0 a1 => h23.2 a (by omega) (by omega), fun j _ => by rw [h23.2 92 (by decide) (by decide)]⟩
  have he2 : σ23 92 6 = 0 := by rw [h23.2 92 (by decide) (by decide)]; exact he1
  have hs2 := hM2.s hs
  rw [show wOc s (wTE s (s 4) (s 5)) 0 = wTot s from wOc_0 ho]
  refine g_istore1 dX6_meanCost_26 rfl (by decide) ?_
  refine g_iconst dX6_meanCost_27 ?_
  refine g_istore2 dX6_meanCost_28 rfl (by decide) ?_
  refine g_iconst dX6_meanCost_29 ?_
  refine g_istore3 dX6_meanCost_30 rfl (by decide) ?_
  have loop : ∀ r : Nat, r ≤ wN s - 1 → ∀ (i x : Int), i = ((r + 1 : Nat) : Int) → x = wCt s (r + 1) → FW g zX6_meanCost 0 0 (fun o τ l' => o = .inl (some (.double (wMc s))) ∧ l' = l23 ∧ Md σ τ ∧ τ 92 6 = 0) 31 [some (.ref 92), some (iv (wTot s)), some (iv x), some (iv i)] [] σ23 l23 := by
    refine loopUp _ (fun r hr2 ih i x hi hx => ?_)
    subst hi
    refine g_iload3 dX6_meanCost_31 ?_
    refine g_aload0 dX6_meanCost_32 ?_
    refine f_getr (r := 93) rfl (by decide) rfl rfl fl_X6_7 dX6_meanCost_33 ?_
    try rw [hs2]
    refine g_bipush dX6_meanCost_36 (by decide) ?_
    refine f_iald rfl (by decide) ⟨by omega, by show _ < ((67 : Nat) : Int); omega⟩ dX6_meanCost_38 ?_
    try rw [hs2]
    rw [hnI]
    refine g_icmp_ge ⟨by omega, by omega⟩ ⟨by omega, by omega⟩ (tgt := 64) dX6_meanCost_39 rfl (fun h39 => ?_) (fun h39 => ?_)
    · have hx9 : x = wCt s (wN s) := by
        rw [hx]
        by_cases c0 : r + 1 ≤ wN s
        · rw [show r + 1 = wN s from by omega]
        · rw [show wN s = 0 from by omega, show r = 0 from by omega]
          rfl
      subst hx9
      have hcr := wCt_rng s (wN s)
      refine g_iload1 dX6_meanCost_64 ?_
      refine g_iconst dX6_meanCost_65 ?_
      refine g_icmp_eq ⟨by omega, by omega⟩ ⟨by decide, by decide⟩ (tgt := 73) dX6_meanCost_66 rfl (fun h66 => ?_) (fun h66 => ?_)
      · refine g_dconst0 dX6_meanCost_73 ?_
        refine g_goto (tgt := 82) dX6_meanCost_74 rfl ?_
        refine g_dreturn rfl dX6_meanCost_82 ?_
        first
          | exact Fo.ret (by unfold wMc; rw [if_pos (Or.inl h66)]) hM2 he2
          | exact Fo.ret (by unfold wMc; rw [if_neg (fun z => z.elim h66 (fun y => h70 (hch.trans y))), hch]) hM2 he2
          | (have hok := (lk_ok (Nat.zero_le _)).mp (Classical.byContradiction (fun z => h66 (hti.mpr z)))
             have hch := wCt_h ho hok (wN s) (Nat.le_refl _)
             exact Fo.ret (by unfold wMc; rw [if_pos (Or.inr (hch.symm.trans h70))]) hM2 he2)
      · refine g_iload2 dX6_meanCost_69 ?_
        refine g_if_ne ⟨by omega, by omega⟩ (tgt := 77) dX6_meanCost_70 rfl (fun h70 => ?_) (fun h70 => ?_)
        · have hok := (lk_ok (Nat.zero_le _)).mp (Classical.byContradiction (fun z => h66 (hti.mpr z)))
          have hch := wCt_h ho hok (wN s) (Nat.le_refl _)
          refine g_iload1 dX6_meanCost_77 ?_
          refine g_i2d dX6_meanCost_78 ?_
          refine g_iload2 dX6_meanCost_79 ?_
          refine g_i2d dX6_meanCost_80 ?_
          refine g_ddiv (nn64 ⟨by omega, by omega⟩ ⟨by omega, by omega⟩) dX6_meanCost_81 ?_
          refine g_dreturn rfl dX6_meanCost_82 ?_
          first
            | exact Fo.ret (by unfold wMc; rw [if_pos (Or.inl h66)]) hM2 he2
            | exact Fo.ret (by unfold wMc; rw [if_neg (fun z => z.elim h66 (fun y => h70 (hch.trans y))), hch]) hM2 he2
            | (have hok := (lk_ok (Nat.zero_le _)).mp (Classical.byContradiction (fun z => h66 (hti.mpr z)))
               have hch := wCt_h ho hok (wN s) (Nat.le_refl _)
               exact Fo.ret (by unfold wMc; rw [if_pos (Or.inr (hch.symm.trans h70))]) hM2 he2)
        · refine g_dconst0 dX6_meanCost_73 ?_
          refine g_goto (tgt := 82) dX6_meanCost_74 rfl ?_
          refine g_dreturn rfl dX6_meanCost_82 ?_
          first
            | exact Fo.ret (by unfold wMc; rw [if_pos (Or.inl h66)]) hM2 he2
            | exact Fo.ret (by unfold wMc; rw [if_neg (fun z => z.elim h66 (fun y => h70 (hch.trans y))), hch]) hM2 he2
            | (have hok := (lk_ok (Nat.zero_le _)).mp (Classical.byContradiction (fun z => h66 (hti.mpr z)))
               have hch := wCt_h ho hok (wN s) (Nat.le_refl _)
               exact Fo.ret (by unfold wMc; rw [if_pos (Or.inr (hch.symm.trans h70))]) hM2 he2)
    · refine g_iload2 dX6_meanCost_42 ?_
      refine g_aload0 dX6_meanCost_43 ?_
      refine g_iload3 dX6_meanCost_44 ?_
      refine f_cV1w (isChange_m ho hs2 (r := r) (by omega)) rfl (by decide) rfl oY_X6_isChange oI_X6_isChange lk_X6_345 rfl dX6_meanCost_45 rfl (Or.inl rfl) ?_
      refine g_ifeqB (tgt := 55) dX6_meanCost_48 rfl (fun h48 => ?_) (fun h48 => ?_)
      · refine g_iconst dX6_meanCost_55 ?_
        refine g_iadd dX6_meanCost_56 ?_
        refine g_istore2 dX6_meanCost_57 rfl (by decide) ?_
        refine g_iinc3 dX6_meanCost_58 rfl (by decide) ?_
        refine g_goto (tgt := 31) dX6_meanCost_61 rfl ?_
        first
          | (have y : wTu s ((r + 1 : Nat) : Int) ≠ -1 ∧ wTu s (r : Int) ≠ -1 := ⟨h48.1.2, h48.2.2⟩
             exact ih (by omega) _ _ (by omega) (by rw [hx, wCt_s, if_pos y]))
          | (have y : ¬ (wTu s ((r + 1 : Nat) : Int) ≠ -1 ∧ wTu s (r : Int) ≠ -1) := fun w => h48 ⟨⟨by omega, w.1⟩, by omega, w.2⟩
             exact ih (by omega) _ _ (by omega) (by rw [hx, wCt_s, if_neg y]))
      · refine g_iconst dX6_meanCost_51 ?_
        refine g_goto (tgt := 56) dX6_meanCost_52 rfl ?_
        refine g_iadd dX6_meanCost_56 ?_
        refine g_istore2 dX6_meanCost_57 rfl (by decide) ?_
        refine g_iinc3 dX6_meanCost_58 rfl (by decide) ?_
        refine g_goto (tgt := 31) dX6_meanCost_61 rfl ?_
        first
          | (have y : wTu s ((r + 1 : Nat) : Int) ≠ -1 ∧ wTu s (r : Int) ≠ -1 := ⟨h48.1.2, h48.2.2⟩
             exact ih (by omega) _ _ (by omega) (by rw [hx, wCt_s, if_pos y]))
          | (have y : ¬ (wTu s ((r + 1 : Nat) : Int) ≠ -1 ∧ wTu s (r : Int) ≠ -1) := fun w => h48 ⟨⟨by omega, w.1⟩, by omega, w.2⟩
             exact ih (by omega) _ _ (by omega) (by rw [hx, wCt_s, if_neg y]))
  exact loop 0 (Nat.zero_le _) _ _ rfl rfl
theorem idN_lt (d : Nat) : ∀ h, idN d h < 2 ^ h := by
  intro h
  induction h with
  | zero => show 0 < 1; decide
  | succ h ih => unfold idN; rw [Nat.pow_succ]; split <;> omega
theorem idN_or (d h : Nat) (c : d.testBit h ≠ true) : idN d h ||| 2 ^ h = idN d (h + 1) := by
  have h1 := Nat.two_pow_add_eq_or_of_lt (idN_lt d h) 1
  rw [Nat.mul_one] at h1
  rw [Nat.or_comm, ← h1, idN, if_neg c, Nat.add_comm]
theorem wFs_s (s : Int → Int) (k : Nat) : wFs s (k + 1) = if wWp s (k + 1) = -1 then wFs s k else if wFs s k = -1 then wWp s (k + 1) else wFs s k := rfl
theorem wDf_s (s : Int → Int) (k : Nat) : wDf s (k + 1) = if wWp s (k + 1) = -1 then wDf s k else wDf s k ||| dfH (cdP ((3 ^ wH s : Nat) : Int) (wFs s (k + 1))) (cdP ((3 ^ wH s : Nat) : Int) (wWp s (k + 1))) := rfl
theorem df_dg {h H : Nat} (hh : h < H) (hH : H ≤ 7) (p q : Int) : (dfH (cdP ((3 ^ H : Nat) : Int) p) (cdP ((3 ^ H : Nat) : Int) q)).testBit h = decide (dgt p h ≠ dgt q h) := by
  rw [df_bit p q (by omega), dgt_fg hh, dgt_fg hh]
/-- what idle knows of one hole behind q notes -/
def idI (s : Int → Int) (h q : Nat) (how same : Int) : Prop := (wFs s q = -1 → how = -1) ∧ (wFs s q ≠ -1 → 0 ≤ how ∧ how ≤ 2 ∧ (same = 1 → how = dgt (wFs s q) h)) ∧ same = if (wDf s q).testBit h = true then 0 else 1
theorem idI_no {s : Int → Int} {h q : Nat} {how same : Int} (hI : idI s h q how same) (hw : wWp s (q + 1) = -1) : idI s h (q + 1) how same := by
  unfold idI
  rw [wFs_s, if_pos hw, wDf_s, if_pos hw]
  exact hI
theorem idI_s {s : Int → Int} {h q : Nat} {how same : Int} (hh : h < wH s) (hH : wH s ≤ 7) (hI : idI s h q how same) (hw : wWp s (q + 1) ≠ -1) : idI s h (q + 1) (dgt (wWp s (q + 1)) h) (if same ≠ 0 ∧ (how = -1 ∨ how = dgt (wWp s (q + 1)) h) then 1 else 0) := by
  obtain ⟨a1, a2, a3⟩ := hI
  have hd := dgt_r (wWp s (q + 1)) h
  have hD : (wDf s (q + 1)).testBit h = ((wDf s q).testBit h || decide (dgt (wFs s (q + 1)) h ≠ dgt (wWp s (q + 1)) h)) := by
    rw [wDf_s, if_neg hw, Nat.testBit_or, df_dg hh hH]
  by_cases c : wFs s q = -1
  · have e1 : wFs s (q + 1) = wWp s (q + 1) := by rw [wFs_s, if_neg hw, if_pos c]
    rw [e1, decide_eq_false (fun z => z rfl), Bool.or_false] at hD
    refine ⟨fun z => absurd (e1.symm.trans z) hw, fun _ => ⟨hd.1, hd.2, fun _ => by rw [e1]⟩, ?_⟩
    rw [hD, ← a3]
    have a0 : same = 0 ∨ same = 1 := by rw [a3]; split <;> omega
    rcases a0 with e | e
    · rw [if_neg (fun z => z.1 e)]; exact e.symm
    · rw [if_pos ⟨by omega, Or.inl (a1 c)⟩]; exact e.symm
  · have e1 : wFs s (q + 1) = wFs s q := by rw [wFs_s, if_neg hw, if_neg c]
    have b := a2 c
    rw [e1] at hD
    by_cases d : (wDf s q).testBit h = true
    · rw [if_pos d] at a3
      rw [d, Bool.true_or] at hD
      refine ⟨fun z => absurd (e1.symm.trans z) c, fun _ => ⟨hd.1, hd.2, fun z => ?_⟩, ?_⟩
      · rw [if_neg (fun y => y.1 a3)] at z; omega
      · rw [hD, if_neg (fun y => y.1 a3)]; rfl
    · rw [if_neg d] at a3
      have b3 := b.2.2 a3
      rw [Bool.eq_false_iff.mpr d, Bool.false_or] at hD
      by_cases e : dgt (wFs s q) h = dgt (wWp s (q + 1)) h
      · rw [decide_eq_false (fun z => z e)] at hD
        refine ⟨fun z => absurd (e1.symm.trans z) c, fun _ => ⟨hd.1, hd.2, fun _ => by rw [e1]; exact e.symm⟩, ?_⟩
        rw [hD, if_pos ⟨by omega, Or.inr (b3.trans e)⟩]; rfl
      · rw [decide_eq_true e] at hD
        refine ⟨fun z => absurd (e1.symm.trans z) c, fun _ => ⟨hd.1, hd.2, fun z => ?_⟩, ?_⟩
        · rw [if_neg (fun y => by rcases y.2 with w | w; omega; exact e (b3.symm.trans w))] at z; omega
        · rw [hD, if_neg (fun y => by rcases y.2 with w | w; omega; exact e (b3.symm.trans w))]; rfl
theorem wFs_rng {B : Int} {s : Int → Int} (ho : SOK B s) (q : Nat) : wFs s q = -1 ∨ 0 ≤ wFs s q := by
  induction q with
  | zero => exact Or.inl rfl
  | succ q ih =>
    have h := wWp_rng ho (q + 1)
    rw [wFs_s]
    split
    · exact ih
    · split
      · omega
      · exact ih
theorem idle_q {B : Int} {s : Int → Int} (ho : SOK B s) (hs : σ 93 = s)  : Fo g zX6_idle [.ref 92] σ l (iv (if wTot s = -1 then -1 else wId s)) 0 := by
  have hs0 : up σ 92 6 0 93 = s := (up_n (by decide)).trans hs
  have hM0 : Md σ (up σ 92 6 0) := md_th (Md.refl σ)
  have he0 : up σ 92 6 0 92 6 = 0 := up_eq
  have hp3 := p3_le ho.h7
  have hp0 := p3_pos (wH s)
  have hn40 := ho.n40
  have hnI := ho.nI
  have hH7 := ho.h7
  have hHI := ho.hI
  have hb4 := ho.halves
  have hb5 := ho.crosses
  have hti := wTot_iff ho
  refine Fn.of [some (.ref 92), none, none, none, none, none, none] rfl (by decide) (Nat.le_of_ble_eq_true rfl) rfl ?_
  by_cases hk : wLk s (wTe s) 0 0 = -1
  · rw [if_neg (fun z => hti.mp z hk)]
    have hok := (lk_ok (Nat.zero_le _)).mp hk
    refine g_aload0 dX6_idle_0 ?_
    refine g_iconst dX6_idle_1 ?_
    refine f_puti (J := 6) rfl (by decide) rfl rfl fl_X6_66 rfl (fun _ _ _ h => by cases h; rfl) dX6_idle_2 ?_
    refine g_aload0 dX6_idle_5 ?_
    refine f_cV0q (findsWay_y ho hs0 hk) rfl (by decide) rfl oY_X6_findsWay oI_X6_findsWay lk_X6_339 rfl dX6_idle_6 (by omega) (by omega) rfl (Or.inl rfl) (fun σ6 l6 h6 => ?_)
    have el1 := h6.1
    subst el1
    have hM1 := hM0.trans h6.2.1
    have he1 : σ6 92 6 = 0 := by rw [h6.2.2.1]; exact he0
    have hL1 := h6.2.2.2.1
    have hs1 := hM1.s hs
    have hw1 := h6.2.2.2.2
    refine g_if_ne ⟨by decide, by decide⟩ (tgt := 14) dX6_idle_9 rfl (fun h9 => ?_) (fun h9 => absurd h9 (by decide))
    refine g_iconst dX6_idle_14 ?_
    refine g_istore1 dX6_idle_15 rfl (by decide) ?_
    refine g_iconst dX6_idle_16 ?_
    refine g_istore2 dX6_idle_17 rfl (by decide) ?_
    have outer : ∀ h : Nat, h ≤ wH s → ∀ (i x : Int) (u3 u4 u5 u6 : Option Value), i = (h : Int) → x = (idN (wDf s (wN s)) h : Int) → FW g zX6_idle 0 0 (fun o τ l' => o = .inl (some (iv (wId s))) ∧ l' = l6 ∧ Md σ τ ∧ τ 92 6 = 0) 18 [some (.ref 92), some (iv x), some (iv i), u3, u4, u5, u6] [] σ6 l6 := by
      refine loopUp _ (fun h hh2 ih i x u3 u4 u5 u6 hi hx => ?_)
      subst hi
      subst hx
      by_cases hhH : h < wH s
      · have inner : ∀ q : Nat, q ≤ wN s → ∀ (j how same : Int) (u6 : Option Value), j = (q : Int) → idI s h q how same → FW g zX6_idle 0 0 (fun o τ l' => o = .inl (some (iv (wId s))) ∧ l' = l6 ∧ Md σ τ ∧ τ 92 6 = 0) 36 [some (.ref 92), some (iv (idN (wDf s (wN s)) h : Int)), some (iv (h : Int)), some (iv how), some (iv same), some (iv j), u6] [] σ6 l6 := by
          refine loopUp _ (fun q hq2 ih2 j how same u6 hj hI => ?_)
          subst hj
          have hs01 : same = 0 ∨ same = 1 := by rw [hI.2.2]; split <;> omega
          have hhr : -1 ≤ how ∧ how ≤ 2 := by
            by_cases c : wFs s q = -1
            · have := hI.1 c; omega
            · have := hI.2.1 c; omega
          by_cases hqn : q < wN s
          · have hwi := wWp_iff ho hok hqn
            by_cases ht : wTu s q = -1
            · refine g_iload5 dX6_idle_36 ?_
              refine g_aload0 dX6_idle_38 ?_
              refine f_getr (r := 93) rfl (by decide) rfl rfl fl_X6_7 dX6_idle_39 ?_
              try rw [hs1]
              refine g_bipush dX6_idle_42 (by decide) ?_
              refine f_iald rfl (by decide) ⟨by omega, by show _ < ((67 : Nat) : Int); omega⟩ dX6_idle_44 ?_
              try rw [hs1]
              rw [hnI]
              refine g_icmp_ge ⟨by omega, by omega⟩ ⟨by omega, by omega⟩ (tgt := 106) dX6_idle_45 rfl (fun h45 => absurd h45 (by omega)) (fun h45 => ?_)
              refine g_aload0 dX6_idle_48 ?_
              refine g_iload5 dX6_idle_49 ?_
              refine f_cV1w (isNoted_m ho hs1 (k := q) (by omega)) rfl (by decide) rfl oY_X6_isNoted oI_X6_isNoted lk_X6_152 rfl dX6_idle_51 rfl (Or.inl rfl) ?_
              refine g_ifneB (tgt := 60) dX6_idle_54 rfl (fun h54 => absurd h54 (fun z => absurd ht z.2)) (fun h54 => ?_)
              refine g_goto (tgt := 100) dX6_idle_57 rfl ?_
              refine g_iinc5 dX6_idle_100 rfl (by decide) ?_
              refine g_goto (tgt := 36) dX6_idle_103 rfl ?_
              exact ih2 (by omega) _ _ _ _ (by omega) (idI_no hI (Classical.byContradiction (fun z => hwi.mp z ht)))
            · have hwn := hwi.mpr ht
              have hwr := wWp_rng ho (q + 1)
              have hst := idI_s hhH hH7 hI hwn
              have hdr := dgt_r (wWp s (q + 1)) h
              have hnt : q < wN s ∧ wTu s (q : Int) ≠ -1 := ⟨hqn, ht⟩
              refine g_iload5 dX6_idle_36 ?_
              refine g_aload0 dX6_idle_38 ?_
              refine f_getr (r := 93) rfl (by decide) rfl rfl fl_X6_7 dX6_idle_39 ?_
              try rw [hs1]
              refine g_bipush dX6_idle_42 (by decide) ?_
              refine f_iald rfl (by decide) ⟨by omega, by show _ < ((67 : Nat) : Int); omega⟩ dX6_idle_44 ?_
              try rw [hs1]
              rw [hnI]
              refine g_icmp_ge ⟨by omega, by omega⟩ ⟨by omega, by omega⟩ (tgt := 106) dX6_idle_45 rfl (fun h45 => absurd h45 (by omega)) (fun h45 => ?_)
              refine g_aload0 dX6_idle_48 ?_
              refine g_iload5 dX6_idle_49 ?_
              refine f_cV1w (isNoted_m ho hs1 (k := q) (by omega)) rfl (by decide) rfl oY_X6_isNoted oI_X6_isNoted lk_X6_152 rfl dX6_idle_51 rfl (Or.inl rfl) ?_
              refine g_ifneB (tgt := 60) dX6_idle_54 rfl (fun h54 => ?_) (fun h54 => absurd h54 (absurd hnt h54))
              refine g_aload0 dX6_idle_60 ?_
              refine g_aload0 dX6_idle_61 ?_
              refine f_getr (r := 104) rfl (by decide) rfl rfl fl_X6_46 dX6_idle_62 ?_
              try rw [hs1]
              refine g_iload5 dX6_idle_65 ?_
              refine f_iald rfl (by decide) ⟨by omega, by show _ < ((40 : Nat) : Int); omega⟩ dX6_idle_67 ?_
              try rw [hs1]
              rw [hw1 q hqn]
              refine g_iload2 dX6_idle_68 ?_
              refine f_cV2w (cover_m (k := h) ⟨by omega, by omega⟩ (by omega)) rfl (by decide) rfl oY_X6_coverOf oI_X6_coverOf lk_X6_90 rfl dX6_idle_69 rfl (Or.inl rfl) ?_
              refine g_istore6 dX6_idle_72 rfl (by decide) ?_
              refine g_iload4 dX6_idle_74 ?_
              refine g_if_eq ⟨by omega, by omega⟩ (tgt := 94) dX6_idle_76 rfl (fun h76 => ?_) (fun h76 => ?_)
              · refine g_iconst dX6_idle_94 ?_
                refine g_istore4 dX6_idle_95 rfl (by decide) ?_
                refine g_iload6 dX6_idle_97 ?_
                refine g_istore3 dX6_idle_99 rfl (by decide) ?_
                refine g_iinc5 dX6_idle_100 rfl (by decide) ?_
                refine g_goto (tgt := 36) dX6_idle_103 rfl ?_
                first
                  | (rw [if_neg (fun z => z.1 (by omega))] at hst
                     exact ih2 (by omega) _ _ _ _ (by omega) hst)
                  | (rw [if_pos ⟨by omega, Or.inl (by omega)⟩] at hst
                     exact ih2 (by omega) _ _ _ _ (by omega) hst)
                  | (rw [if_pos ⟨by omega, Or.inr (by omega)⟩] at hst
                     exact ih2 (by omega) _ _ _ _ (by omega) hst)
                  | (rw [if_neg (fun z => by rcases z.2 with y | y <;> omega)] at hst
                     exact ih2 (by omega) _ _ _ _ (by omega) hst)
              · refine g_iload3 dX6_idle_79 ?_
                refine g_iconst dX6_idle_80 ?_
                refine g_icmp_eq ⟨by omega, by omega⟩ ⟨by omega, by omega⟩ (tgt := 90) dX6_idle_81 rfl (fun h81 => ?_) (fun h81 => ?_)
                · refine g_iconst dX6_idle_90 ?_
                  refine g_goto (tgt := 95) dX6_idle_91 rfl ?_
                  refine g_istore4 dX6_idle_95 rfl (by decide) ?_
                  refine g_iload6 dX6_idle_97 ?_
                  refine g_istore3 dX6_idle_99 rfl (by decide) ?_
                  refine g_iinc5 dX6_idle_100 rfl (by decide) ?_
                  refine g_goto (tgt := 36) dX6_idle_103 rfl ?_
                  first
                    | (rw [if_neg (fun z => z.1 (by omega))] at hst
                       exact ih2 (by omega) _ _ _ _ (by omega) hst)
                    | (rw [if_pos ⟨by omega, Or.inl (by omega)⟩] at hst
                       exact ih2 (by omega) _ _ _ _ (by omega) hst)
                    | (rw [if_pos ⟨by omega, Or.inr (by omega)⟩] at hst
                       exact ih2 (by omega) _ _ _ _ (by omega) hst)
                    | (rw [if_neg (fun z => by rcases z.2 with y | y <;> omega)] at hst
                       exact ih2 (by omega) _ _ _ _ (by omega) hst)
                · refine g_iload3 dX6_idle_84 ?_
                  refine g_iload6 dX6_idle_85 ?_
                  refine g_icmp_ne ⟨by omega, by omega⟩ ⟨by omega, by omega⟩ (tgt := 94) dX6_idle_87 rfl (fun h87 => ?_) (fun h87 => ?_)
                  · refine g_iconst dX6_idle_94 ?_
                    refine g_istore4 dX6_idle_95 rfl (by decide) ?_
                    refine g_iload6 dX6_idle_97 ?_
                    refine g_istore3 dX6_idle_99 rfl (by decide) ?_
                    refine g_iinc5 dX6_idle_100 rfl (by decide) ?_
                    refine g_goto (tgt := 36) dX6_idle_103 rfl ?_
                    first
                      | (rw [if_neg (fun z => z.1 (by omega))] at hst
                         exact ih2 (by omega) _ _ _ _ (by omega) hst)
                      | (rw [if_pos ⟨by omega, Or.inl (by omega)⟩] at hst
                         exact ih2 (by omega) _ _ _ _ (by omega) hst)
                      | (rw [if_pos ⟨by omega, Or.inr (by omega)⟩] at hst
                         exact ih2 (by omega) _ _ _ _ (by omega) hst)
                      | (rw [if_neg (fun z => by rcases z.2 with y | y <;> omega)] at hst
                         exact ih2 (by omega) _ _ _ _ (by omega) hst)
                  · refine g_iconst dX6_idle_90 ?_
                    refine g_goto (tgt := 95) dX6_idle_91 rfl ?_
                    refine g_istore4 dX6_idle_95 rfl (by decide) ?_
                    refine g_iload6 dX6_idle_97 ?_
                    refine g_istore3 dX6_idle_99 rfl (by decide) ?_
                    refine g_iinc5 dX6_idle_100 rfl (by decide) ?_
                    refine g_goto (tgt := 36) dX6_idle_103 rfl ?_
                    first
                      | (rw [if_neg (fun z => z.1 (by omega))] at hst
                         exact ih2 (by omega) _ _ _ _ (by omega) hst)
                      | (rw [if_pos ⟨by omega, Or.inl (by omega)⟩] at hst
                         exact ih2 (by omega) _ _ _ _ (by omega) hst)
                      | (rw [if_pos ⟨by omega, Or.inr (by omega)⟩] at hst
                         exact ih2 (by omega) _ _ _ _ (by omega) hst)
                      | (rw [if_neg (fun z => by rcases z.2 with y | y <;> omega)] at hst
                         exact ih2 (by omega) _ _ _ _ (by omega) hst)
          · have e9 : q = wN s := by omega
            subst e9
            by_cases hb : (wDf s (wN s)).testBit h = true
            · have hse := hI.2.2
              rw [if_pos hb] at hse
              refine g_iload5 dX6_idle_36 ?_
              refine g_aload0 dX6_idle_38 ?_
              refine f_getr (r := 93) rfl (by decide) rfl rfl fl_X6_7 dX6_idle_39 ?_
              try rw [hs1]
              refine g_bipush dX6_idle_42 (by decide) ?_
              refine f_iald rfl (by decide) ⟨by omega, by show _ < ((67 : Nat) : Int); omega⟩ dX6_idle_44 ?_
              try rw [hs1]
              rw [hnI]
              refine g_icmp_ge ⟨by omega, by omega⟩ ⟨by omega, by omega⟩ (tgt := 106) dX6_idle_45 rfl (fun h45 => ?_) (fun h45 => absurd h45 (by omega))
              refine g_iload1 dX6_idle_106 ?_
              refine g_iload4 dX6_idle_107 ?_
              refine g_if_eq ⟨by omega, by omega⟩ (tgt := 118) dX6_idle_109 rfl (fun h109 => ?_) (fun h109 => absurd h109 (by omega))
              refine g_iconst dX6_idle_118 ?_
              refine g_ior (a := idN (wDf s (wN s)) h) (b := 0) dX6_idle_119 ?_
              refine g_istore1 dX6_idle_120 rfl (by decide) ?_
              refine g_iinc2 dX6_idle_121 rfl (by decide) ?_
              refine g_goto (tgt := 18) dX6_idle_124 rfl ?_
              refine ih (by omega) _ _ _ _ _ _ (by omega) ?_
              rw [idN, if_pos hb, Nat.or_zero]
              rfl
            · have hse := hI.2.2
              rw [if_neg hb] at hse
              refine g_iload5 dX6_idle_36 ?_
              refine g_aload0 dX6_idle_38 ?_
              refine f_getr (r := 93) rfl (by decide) rfl rfl fl_X6_7 dX6_idle_39 ?_
              try rw [hs1]
              refine g_bipush dX6_idle_42 (by decide) ?_
              refine f_iald rfl (by decide) ⟨by omega, by show _ < ((67 : Nat) : Int); omega⟩ dX6_idle_44 ?_
              try rw [hs1]
              rw [hnI]
              refine g_icmp_ge ⟨by omega, by omega⟩ ⟨by omega, by omega⟩ (tgt := 106) dX6_idle_45 rfl (fun h45 => ?_) (fun h45 => absurd h45 (by omega))
              refine g_iload1 dX6_idle_106 ?_
              refine g_iload4 dX6_idle_107 ?_
              refine g_if_eq ⟨by omega, by omega⟩ (tgt := 118) dX6_idle_109 rfl (fun h109 => absurd h109 (by omega)) (fun h109 => ?_)
              refine g_iconst dX6_idle_112 ?_
              refine g_iload2 dX6_idle_113 ?_
              refine g_ishl (by omega) dX6_idle_114 ?_
              rw [Int.one_mul]
              refine g_goto (tgt := 119) dX6_idle_115 rfl ?_
              refine g_ior (a := idN (wDf s (wN s)) h) (b := 2 ^ h) dX6_idle_119 ?_
              refine g_istore1 dX6_idle_120 rfl (by decide) ?_
              refine g_iinc2 dX6_idle_121 rfl (by decide) ?_
              refine g_goto (tgt := 18) dX6_idle_124 rfl ?_
              refine ih (by omega) _ _ _ _ _ _ (by omega) ?_
              rw [idN_or _ _ hb]
        refine g_iload2 dX6_idle_18 ?_
        refine g_aload0 dX6_idle_19 ?_
        refine f_getr (r := 93) rfl (by decide) rfl rfl fl_X6_7 dX6_idle_20 ?_
        try rw [hs1]
        refine g_iconst dX6_idle_23 ?_
        refine f_iald rfl (by decide) ⟨by omega, by show _ < ((67 : Nat) : Int); omega⟩ dX6_idle_24 ?_
        try rw [hs1]
        rw [hHI]
        refine g_icmp_ge ⟨by omega, by omega⟩ ⟨by omega, by omega⟩ (tgt := 127) dX6_idle_25 rfl (fun h25 => absurd h25 (by omega)) (fun h25 => ?_)
        refine g_iconst dX6_idle_28 ?_
        refine g_istore3 dX6_idle_29 rfl (by decide) ?_
        refine g_iconst dX6_idle_30 ?_
        refine g_istore4 dX6_idle_31 rfl (by decide) ?_
        refine g_iconst dX6_idle_33 ?_
        refine g_istore5 dX6_idle_34 rfl (by decide) ?_
        exact inner 0 (Nat.zero_le _) _ _ _ _ rfl ⟨fun _ => rfl, fun z => absurd rfl z, by rw [show wDf s 0 = 0 from rfl, Nat.zero_testBit]; rfl⟩
      · have e9 : h = wH s := by omega
        subst e9
        refine g_iload2 dX6_idle_18 ?_
        refine g_aload0 dX6_idle_19 ?_
        refine f_getr (r := 93) rfl (by decide) rfl rfl fl_X6_7 dX6_idle_20 ?_
        try rw [hs1]
        refine g_iconst dX6_idle_23 ?_
        refine f_iald rfl (by decide) ⟨by omega, by show _ < ((67 : Nat) : Int); omega⟩ dX6_idle_24 ?_
        try rw [hs1]
        rw [hHI]
        refine g_icmp_ge ⟨by omega, by omega⟩ ⟨by omega, by omega⟩ (tgt := 127) dX6_idle_25 rfl (fun h25 => ?_) (fun h25 => absurd h25 (by omega))
        refine g_iload1 dX6_idle_127 ?_
        refine g_iretI rfl dX6_idle_128 ?_
        exact Fo.ret rfl hM1 he1
    exact outer 0 (Nat.zero_le _) _ _ _ _ _ _ rfl rfl
  · rw [if_pos (hti.mpr hk)]
    refine g_aload0 dX6_idle_0 ?_
    refine g_iconst dX6_idle_1 ?_
    refine f_puti (J := 6) rfl (by decide) rfl rfl fl_X6_66 rfl (fun _ _ _ h => by cases h; rfl) dX6_idle_2 ?_
    refine g_aload0 dX6_idle_5 ?_
    refine f_cV0q (findsWay_n ho hs0 hk) rfl (by decide) rfl oY_X6_findsWay oI_X6_findsWay lk_X6_339 rfl dX6_idle_6 (by omega) (by omega) rfl (Or.inl rfl) (fun σ6 l6 h6 => ?_)
    have el1 := h6.1
    subst el1
    have hM1 := hM0.trans h6.2.1
    have he1 : σ6 92 6 = 0 := by rw [h6.2.2.1]; exact he0
    have hL1 := h6.2.2.2.1
    have hs1 := hM1.s hs
    refine g_if_ne ⟨by decide, by decide⟩ (tgt := 14) dX6_idle_9 rfl (fun h9 => absurd h9 (by decide)) (fun h9 => ?_)
    refine g_iconst dX6_idle_12 ?_
    refine g_iretI rfl dX6_idle_13 ?_
    exact Fo.ret rfl hM1 he1
end C77
