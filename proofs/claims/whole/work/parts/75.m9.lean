/-! The model's questions, loops -/
section C75
variable {g : gT} {σ : sT} {l : Nat → Nat}
theorem pq_congr {F F' TE : Int → Int} {t : Int} (h : ∀ q : Nat, TE q = t → F q = F' q) : ∀ n, pq F TE t n = pq F' TE t n := by
  intro n
  induction n with
  | zero => rfl
  | succ n ih =>
    by_cases c : TE n = t
    · unfold pq
      rw [ih, h n c]
    · rw [pq_n c, pq_n c, ih]
theorem offC_t {B : Int} {s : Int → Int} (ho : SOK B s) {x t : Int} (ht : 0 ≤ t) (h : wTe s x = t) : absI (offC (wCn s x)) = absI (wCn s x - 100 * t) := by
  have h1 : wT s x = t := ((teP_iff ht).mpr h).1
  rw [wT_eq, tonF_eq] at h1
  have h2 := ho.tol
  have h3 := wCn_rng ho x
  unfold absI offC
  split at h1
  · split <;> split <;> split <;> omega
  · omega
theorem offC_rng (x : Int) : -50 ≤ offC x ∧ offC x ≤ 50 := by
  unfold offC
  split <;> omega
theorem truest_q {B : Int} {s : Int → Int} (ho : SOK B s) (hs : σ 93 = s) {p : Int} (h : 0 ≤ p ∧ p ≤ 24) : Fo g zX6_truest [.ref 92, iv p] σ l (iv (pkA (fun x => absI (wCn s x - 100 * p)) (wEt s p))) 0 := by
  have hs0 : up σ 92 6 0 93 = s := (up_n (by decide)).trans hs
  have hM0 : Md σ (up σ 92 6 0) := md_th (Md.refl σ)
  have he0 : up σ 92 6 0 92 6 = 0 := up_eq
  have hp3 := p3_le ho.h7
  have hp0 := p3_pos (wH s)
  have hn40 := ho.n40
  have hnI := ho.nI
  have hH7 := ho.h7
  have hHI := ho.hI
  have hb4 := ho.halves
  have hb5 := ho.crosses
  obtain ⟨F, hFd⟩ : ∃ F : Int → Int, F = fun x => absI (offC (wCn s x)) := ⟨_, rfl⟩
  have hFv : ∀ x, F x = absI (offC (wCn s x)) := fun x => by rw [hFd]
  have hpl := ho.play
  have hF : ∀ x, 0 ≤ F x ∧ F x ≤ 10000 := fun x => by
    rw [hFv]
    have h1 := offC_rng (wCn s x)
    unfold absI
    split <;> omega
  have hfin : (pq F (wTe s) p (2 * 3 ^ wH s)).1 = pkA (fun x => absI (wCn s x - 100 * p)) (wEt s p) := by
    rw [wEt_in (by omega)]
    have h2 := (pq_ok (TE := wTe s) (t := p) (fun q => show F q < 2000000 by have := hF q; omega) (2 * 3 ^ wH s)).1
    rw [h2]
    rw [← h2, pq_congr (F' := fun x => absI (wCn s x - 100 * p)) (fun q hq => by rw [hFv]; exact offC_t ho h.1 hq)]
    exact (pq_ok (fun q => by have h9 := wCn_rng ho q; show absI _ < _; unfold absI; split <;> omega) _).1
  refine Fn.of [some (.ref 92), some (iv p), none, none, none, none, none] rfl (by decide) (Nat.le_of_ble_eq_true rfl) rfl ?_
  refine g_aload0 dX6_truest_0 ?_
  refine g_iload1 dX6_truest_1 ?_
  refine f_cV1x (mayTone_y (by omega) h) rfl (by decide) rfl oY_X6_mayTone oI_X6_mayTone lk_X6_309 rfl dX6_truest_2 rfl (Or.inl rfl) ?_
  refine g_if_ne ⟨by decide, by decide⟩ (tgt := 10) dX6_truest_5 rfl (fun h5 => ?_) (fun h5 => absurd h5 (by decide))
  refine g_aload0 dX6_truest_10 ?_
  refine f_cV0m (laysP ho hs0) rfl (by decide) rfl oY_X6_laysPlays oI_X6_laysPlays lk_X6_177 rfl dX6_truest_11 (by omega) (by omega) rfl (Or.inl rfl) (fun σ11 l11 h11 => ?_)
  have el1 := h11.1
  subst el1
  have hM1 := hM0.trans h11.2.1
  have he1 : σ11 92 6 = 0 := by rw [h11.2.2.2]; exact he0
  have hL1 := h11.2.2.1
  have hs1 := hM1.s hs
  refine g_aload0 dX6_truest_14 ?_
  refine f_cV0w (many_ok ho hs1) rfl (by decide) rfl oY_X6_many oI_X6_many lk_X6_80 rfl dX6_truest_15 rfl (Or.inl rfl) ?_
  refine g_istore2 dX6_truest_18 rfl (by decide) ?_
  refine g_iconst dX6_truest_19 ?_
  refine g_istore3 dX6_truest_20 rfl (by decide) ?_
  refine g_iconst dX6_truest_21 ?_
  refine g_istore4 dX6_truest_22 rfl (by decide) ?_
  refine g_iconst dX6_truest_24 ?_
  refine g_istore5 dX6_truest_25 rfl (by decide) ?_
  have loop : ∀ q : Nat, q ≤ (2 * 3 ^ wH s) → ∀ (i be it : Int) (u6 : Option Value), i = (q : Int) → be = (pq F (wTe s) p q).1 → it = (pq F (wTe s) p q).2 → FW g zX6_truest 0 0 (fun o τ l' => o = .inl (some (iv (pkA (fun x => absI (wCn s x - 100 * p)) (wEt s p)))) ∧ l' = l11 ∧ Md σ τ ∧ τ 92 6 = 0) 27 [some (.ref 92), some (iv p), some (iv (2 * ((3 ^ wH s : Nat) : Int))), some (iv be), some (iv it), some (iv i), u6] [] σ11 l11 := by
    refine loopUp _ (fun q hq2 ih i be it u6 hi hbe hit => ?_)
    subst hi
    subst hbe
    subst hit
    have hpr := pq_rng (TE := wTe s) (t := p) hF q
    have hFq := hF q
    have hcq := wCn_rng ho (q : Int)
    have hof := offC_rng (wCn s (q : Int))
    refine g_iload5 dX6_truest_27 ?_
    refine g_iload2 dX6_truest_29 ?_
    refine g_icmp_ge ⟨by omega, by omega⟩ ⟨by omega, by omega⟩ (tgt := 86) dX6_truest_30 rfl (fun h30 => ?_) (fun h30 => ?_)
    · refine g_iload3 dX6_truest_86 ?_
      refine g_iretI rfl dX6_truest_87 ?_
      have e9 : q = (2 * 3 ^ wH s) := by omega
      subst e9
      exact Fo.ret (by rw [hfin]) hM1 he1
    · refine g_aload0 dX6_truest_33 ?_
      refine g_iload5 dX6_truest_34 ?_
      refine g_iload1 dX6_truest_36 ?_
      refine f_cV2w (isEasyOf_m ho hs1 hL1 ⟨by omega, by omega⟩ ⟨by omega, by omega⟩) rfl (by decide) rfl oY_X6_isEasyOf oI_X6_isEasyOf lk_X6_180 rfl dX6_truest_37 rfl (Or.inl rfl) ?_
      refine g_ifneB (tgt := 46) dX6_truest_40 rfl (fun h40 => ?_) (fun h40 => ?_)
      · refine g_aload0 dX6_truest_46 ?_
        refine g_aload0 dX6_truest_47 ?_
        refine g_iload5 dX6_truest_48 ?_
        refine f_cV1w (cents_m ho hs1 rfl hL1.1 ⟨by omega, by omega⟩) rfl (by decide) rfl oY_X6_centsOf oI_X6_centsOf lk_X6_127 rfl dX6_truest_50 rfl (Or.inl rfl) ?_
        refine f_cV1w (offOf_m ⟨by omega, by omega⟩) rfl (by decide) rfl oY_X6_offOf oI_X6_offOf lk_X6_306 rfl dX6_truest_53 rfl (Or.inl rfl) ?_
        refine g_mabs ⟨by omega, by omega⟩ ma_X6_318 ⟨by decide, Nat.le_of_ble_eq_true rfl⟩ dX6_truest_56 ?_
        rw [show (if 0 ≤ offC (wCn s (q : Int)) then offC (wCn s (q : Int)) else -offC (wCn s (q : Int))) = F (q : Int) from (hFv _).symm]
        refine g_istore6 dX6_truest_59 rfl (by decide) ?_
        refine g_iload3 dX6_truest_61 ?_
        refine g_iconst dX6_truest_62 ?_
        refine g_icmp_eq ⟨by omega, by omega⟩ ⟨by omega, by omega⟩ (tgt := 73) dX6_truest_63 rfl (fun h63 => ?_) (fun h63 => ?_)
        · refine g_iload5 dX6_truest_73 ?_
          refine g_istore3 dX6_truest_75 rfl (by decide) ?_
          refine g_iload6 dX6_truest_76 ?_
          refine g_istore4 dX6_truest_78 rfl (by decide) ?_
          refine g_iinc5 dX6_truest_80 rfl (by decide) ?_
          refine g_goto (tgt := 27) dX6_truest_83 rfl ?_
          first
            | exact ih (by omega) _ _ _ _ (by omega) (by rw [pq_n h40]) (by rw [pq_n h40])
            | exact ih (by omega) _ _ _ _ (by omega) (by rw [pq_y h40 (by omega)]) (by rw [pq_y h40 (by omega)])
            | exact ih (by omega) _ _ _ _ (by omega) (by rw [pq_k (by omega) (by omega)]) (by rw [pq_k (by omega) (by omega)])
        · refine g_iload6 dX6_truest_66 ?_
          refine g_iload4 dX6_truest_68 ?_
          refine g_icmp_ge ⟨by omega, by omega⟩ ⟨by omega, by omega⟩ (tgt := 80) dX6_truest_70 rfl (fun h70 => ?_) (fun h70 => ?_)
          · refine g_iinc5 dX6_truest_80 rfl (by decide) ?_
            refine g_goto (tgt := 27) dX6_truest_83 rfl ?_
            first
              | exact ih (by omega) _ _ _ _ (by omega) (by rw [pq_n h40]) (by rw [pq_n h40])
              | exact ih (by omega) _ _ _ _ (by omega) (by rw [pq_y h40 (by omega)]) (by rw [pq_y h40 (by omega)])
              | exact ih (by omega) _ _ _ _ (by omega) (by rw [pq_k (by omega) (by omega)]) (by rw [pq_k (by omega) (by omega)])
          · refine g_iload5 dX6_truest_73 ?_
            refine g_istore3 dX6_truest_75 rfl (by decide) ?_
            refine g_iload6 dX6_truest_76 ?_
            refine g_istore4 dX6_truest_78 rfl (by decide) ?_
            refine g_iinc5 dX6_truest_80 rfl (by decide) ?_
            refine g_goto (tgt := 27) dX6_truest_83 rfl ?_
            first
              | exact ih (by omega) _ _ _ _ (by omega) (by rw [pq_n h40]) (by rw [pq_n h40])
              | exact ih (by omega) _ _ _ _ (by omega) (by rw [pq_y h40 (by omega)]) (by rw [pq_y h40 (by omega)])
              | exact ih (by omega) _ _ _ _ (by omega) (by rw [pq_k (by omega) (by omega)]) (by rw [pq_k (by omega) (by omega)])
      · refine g_goto (tgt := 80) dX6_truest_43 rfl ?_
        refine g_iinc5 dX6_truest_80 rfl (by decide) ?_
        refine g_goto (tgt := 27) dX6_truest_83 rfl ?_
        first
          | exact ih (by omega) _ _ _ _ (by omega) (by rw [pq_n h40]) (by rw [pq_n h40])
          | exact ih (by omega) _ _ _ _ (by omega) (by rw [pq_y h40 (by omega)]) (by rw [pq_y h40 (by omega)])
          | exact ih (by omega) _ _ _ _ (by omega) (by rw [pq_k (by omega) (by omega)]) (by rw [pq_k (by omega) (by omega)])
  exact loop 0 (Nat.zero_le _) _ _ _ _ rfl rfl rfl
theorem truest_r {B : Int} {s : Int → Int} (ho : SOK B s) (hs : σ 93 = s) {p : Int} (hx : R32 p) (h : ¬ (0 ≤ p ∧ p ≤ 24)) : Fo g zX6_truest [.ref 92, iv p] σ l (iv 0) 1 := by
  have hs0 : up σ 92 6 0 93 = s := (up_n (by decide)).trans hs
  have hM0 : Md σ (up σ 92 6 0) := md_th (Md.refl σ)
  have he0 : up σ 92 6 0 92 6 = 0 := up_eq
  have hp3 := p3_le ho.h7
  have hp0 := p3_pos (wH s)
  have hn40 := ho.n40
  have hnI := ho.nI
  have hH7 := ho.h7
  have hHI := ho.hI
  have hb4 := ho.halves
  have hb5 := ho.crosses
  refine Fn.of [some (.ref 92), some (iv p), none, none, none, none, none] rfl (by decide) (Nat.le_of_ble_eq_true rfl) rfl ?_
  refine g_aload0 dX6_truest_0 ?_
  refine g_iload1 dX6_truest_1 ?_
  refine f_cV1x (mayTone_n hx h) rfl (by decide) rfl oY_X6_mayTone oI_X6_mayTone lk_X6_309 rfl dX6_truest_2 rfl (Or.inl rfl) ?_
  refine g_if_ne ⟨by decide, by decide⟩ (tgt := 10) dX6_truest_5 rfl (fun h5 => absurd h5 (by decide)) (fun h5 => ?_)
  refine g_iconst dX6_truest_8 ?_
  refine g_iretI rfl dX6_truest_9 ?_
  exact Fo.ret rfl (md_th (Md.refl σ)) up_eq
theorem nearest_q {B : Int} {s : Int → Int} (ho : SOK B s) (hs : σ 93 = s) {p : Int} (h : 0 ≤ p ∧ p ≤ 24) : Fo g zX6_nearest [.ref 92, iv p] σ l (iv (pkA (fun x => wCo s (s 10) x) (wEt s p))) 0 := by
  have hs0 : up σ 92 6 0 93 = s := (up_n (by decide)).trans hs
  have hM0 : Md σ (up σ 92 6 0) := md_th (Md.refl σ)
  have he0 : up σ 92 6 0 92 6 = 0 := up_eq
  have hp3 := p3_le ho.h7
  have hp0 := p3_pos (wH s)
  have hn40 := ho.n40
  have hnI := ho.nI
  have hH7 := ho.h7
  have hHI := ho.hI
  have hb4 := ho.halves
  have hb5 := ho.crosses
  obtain ⟨F, hFd⟩ : ∃ F : Int → Int, F = fun x => wCo s (s 10) x := ⟨_, rfl⟩
  have hFv : ∀ x, F x = wCo s (s 10) x := fun x => by rw [hFd]
  have hpl := ho.play
  have hF : ∀ x, 0 ≤ F x ∧ F x ≤ 10000 := fun x => by
    rw [hFv]
    have h1 := wCo_rng ho (s 10) x
    omega
  have hfin : (pq F (wTe s) p (2 * 3 ^ wH s)).1 = pkA (fun x => wCo s (s 10) x) (wEt s p) := by
    rw [wEt_in (by omega)]
    have h2 := (pq_ok (TE := wTe s) (t := p) (fun q => show F q < 2000000 by have := hF q; omega) (2 * 3 ^ wH s)).1
    rw [h2]
    rw [hFd]
  refine Fn.of [some (.ref 92), some (iv p), none, none, none, none, none] rfl (by decide) (Nat.le_of_ble_eq_true rfl) rfl ?_
  refine g_aload0 dX6_nearest_0 ?_
  refine g_iload1 dX6_nearest_1 ?_
  refine f_cV1x (mayTone_y (by omega) h) rfl (by decide) rfl oY_X6_mayTone oI_X6_mayTone lk_X6_309 rfl dX6_nearest_2 rfl (Or.inl rfl) ?_
  refine g_if_ne ⟨by decide, by decide⟩ (tgt := 10) dX6_nearest_5 rfl (fun h5 => ?_) (fun h5 => absurd h5 (by decide))
  refine g_aload0 dX6_nearest_10 ?_
  refine f_cV0m (laysP ho hs0) rfl (by decide) rfl oY_X6_laysPlays oI_X6_laysPlays lk_X6_177 rfl dX6_nearest_11 (by omega) (by omega) rfl (Or.inl rfl) (fun σ11 l11 h11 => ?_)
  have el1 := h11.1
  subst el1
  have hM1 := hM0.trans h11.2.1
  have he1 : σ11 92 6 = 0 := by rw [h11.2.2.2]; exact he0
  have hL1 := h11.2.2.1
  have hs1 := hM1.s hs
  refine g_aload0 dX6_nearest_14 ?_
  refine f_cV0w (many_ok ho hs1) rfl (by decide) rfl oY_X6_many oI_X6_many lk_X6_80 rfl dX6_nearest_15 rfl (Or.inl rfl) ?_
  refine g_istore2 dX6_nearest_18 rfl (by decide) ?_
  refine g_iconst dX6_nearest_19 ?_
  refine g_istore3 dX6_nearest_20 rfl (by decide) ?_
  refine g_iconst dX6_nearest_21 ?_
  refine g_istore4 dX6_nearest_22 rfl (by decide) ?_
  refine g_iconst dX6_nearest_24 ?_
  refine g_istore5 dX6_nearest_25 rfl (by decide) ?_
  have loop : ∀ q : Nat, q ≤ (2 * 3 ^ wH s) → ∀ (i be it : Int) (u6 : Option Value), i = (q : Int) → be = (pq F (wTe s) p q).1 → it = (pq F (wTe s) p q).2 → FW g zX6_nearest 0 0 (fun o τ l' => o = .inl (some (iv (pkA (fun x => wCo s (s 10) x) (wEt s p)))) ∧ l' = l11 ∧ Md σ τ ∧ τ 92 6 = 0) 27 [some (.ref 92), some (iv p), some (iv (2 * ((3 ^ wH s : Nat) : Int))), some (iv be), some (iv it), some (iv i), u6] [] σ11 l11 := by
    refine loopUp _ (fun q hq2 ih i be it u6 hi hbe hit => ?_)
    subst hi
    subst hbe
    subst hit
    have hpr := pq_rng (TE := wTe s) (t := p) hF q
    have hFq := hF q
    have hcq := wCn_rng ho (q : Int)
    have hof := offC_rng (wCn s (q : Int))
    refine g_iload5 dX6_nearest_27 ?_
    refine g_iload2 dX6_nearest_29 ?_
    refine g_icmp_ge ⟨by omega, by omega⟩ ⟨by omega, by omega⟩ (tgt := 86) dX6_nearest_30 rfl (fun h30 => ?_) (fun h30 => ?_)
    · refine g_iload3 dX6_nearest_86 ?_
      refine g_iretI rfl dX6_nearest_87 ?_
      have e9 : q = (2 * 3 ^ wH s) := by omega
      subst e9
      exact Fo.ret (by rw [hfin]) hM1 he1
    · refine g_aload0 dX6_nearest_33 ?_
      refine g_iload5 dX6_nearest_34 ?_
      refine g_iload1 dX6_nearest_36 ?_
      refine f_cV2w (isEasyOf_m ho hs1 hL1 ⟨by omega, by omega⟩ ⟨by omega, by omega⟩) rfl (by decide) rfl oY_X6_isEasyOf oI_X6_isEasyOf lk_X6_180 rfl dX6_nearest_37 rfl (Or.inl rfl) ?_
      refine g_ifneB (tgt := 46) dX6_nearest_40 rfl (fun h40 => ?_) (fun h40 => ?_)
      · refine g_aload0 dX6_nearest_46 ?_
        refine g_aload0 dX6_nearest_47 ?_
        refine f_getr (r := 93) rfl (by decide) rfl rfl fl_X6_7 dX6_nearest_48 ?_
        try rw [hs1]
        refine g_bipush dX6_nearest_51 (by decide) ?_
        refine f_iald rfl (by decide) ⟨by omega, by show _ < ((67 : Nat) : Int); omega⟩ dX6_nearest_53 ?_
        try rw [hs1]
        refine g_iload5 dX6_nearest_54 ?_
        refine f_cV2w (cost_m ho hs1 hpl ⟨by omega, by omega⟩) rfl (by decide) rfl oY_X6_costOf oI_X6_costOf lk_X6_160 rfl dX6_nearest_56 rfl (Or.inl rfl) ?_
        rw [show wCo s (s 10) (q : Int) = F (q : Int) from (hFv _).symm]
        refine g_istore6 dX6_nearest_59 rfl (by decide) ?_
        refine g_iload3 dX6_nearest_61 ?_
        refine g_iconst dX6_nearest_62 ?_
        refine g_icmp_eq ⟨by omega, by omega⟩ ⟨by omega, by omega⟩ (tgt := 73) dX6_nearest_63 rfl (fun h63 => ?_) (fun h63 => ?_)
        · refine g_iload5 dX6_nearest_73 ?_
          refine g_istore3 dX6_nearest_75 rfl (by decide) ?_
          refine g_iload6 dX6_nearest_76 ?_
          refine g_istore4 dX6_nearest_78 rfl (by decide) ?_
          refine g_iinc5 dX6_nearest_80 rfl (by decide) ?_
          refine g_goto (tgt := 27) dX6_nearest_83 rfl ?_
          first
            | exact ih (by omega) _ _ _ _ (by omega) (by rw [pq_n h40]) (by rw [pq_n h40])
            | exact ih (by omega) _ _ _ _ (by omega) (by rw [pq_y h40 (by omega)]) (by rw [pq_y h40 (by omega)])
            | exact ih (by omega) _ _ _ _ (by omega) (by rw [pq_k (by omega) (by omega)]) (by rw [pq_k (by omega) (by omega)])
        · refine g_iload6 dX6_nearest_66 ?_
          refine g_iload4 dX6_nearest_68 ?_
          refine g_icmp_ge ⟨by omega, by omega⟩ ⟨by omega, by omega⟩ (tgt := 80) dX6_nearest_70 rfl (fun h70 => ?_) (fun h70 => ?_)
          · refine g_iinc5 dX6_nearest_80 rfl (by decide) ?_
            refine g_goto (tgt := 27) dX6_nearest_83 rfl ?_
            first
              | exact ih (by omega) _ _ _ _ (by omega) (by rw [pq_n h40]) (by rw [pq_n h40])
              | exact ih (by omega) _ _ _ _ (by omega) (by rw [pq_y h40 (by omega)]) (by rw [pq_y h40 (by omega)])
              | exact ih (by omega) _ _ _ _ (by omega) (by rw [pq_k (by omega) (by omega)]) (by rw [pq_k (by omega) (by omega)])
          · refine g_iload5 dX6_nearest_73 ?_
            refine g_istore3 dX6_nearest_75 rfl (by decide) ?_
            refine g_iload6 dX6_nearest_76 ?_
            refine g_istore4 dX6_nearest_78 rfl (by decide) ?_
            refine g_iinc5 dX6_nearest_80 rfl (by decide) ?_
            refine g_goto (tgt := 27) dX6_nearest_83 rfl ?_
            first
              | exact ih (by omega) _ _ _ _ (by omega) (by rw [pq_n h40]) (by rw [pq_n h40])
              | exact ih (by omega) _ _ _ _ (by omega) (by rw [pq_y h40 (by omega)]) (by rw [pq_y h40 (by omega)])
              | exact ih (by omega) _ _ _ _ (by omega) (by rw [pq_k (by omega) (by omega)]) (by rw [pq_k (by omega) (by omega)])
      · refine g_goto (tgt := 80) dX6_nearest_43 rfl ?_
        refine g_iinc5 dX6_nearest_80 rfl (by decide) ?_
        refine g_goto (tgt := 27) dX6_nearest_83 rfl ?_
        first
          | exact ih (by omega) _ _ _ _ (by omega) (by rw [pq_n h40]) (by rw [pq_n h40])
          | exact ih (by omega) _ _ _ _ (by omega) (by rw [pq_y h40 (by omega)]) (by rw [pq_y h40 (by omega)])
          | exact ih (by omega) _ _ _ _ (by omega) (by rw [pq_k (by omega) (by omega)]) (by rw [pq_k (by omega) (by omega)])
  exact loop 0 (Nat.zero_le _) _ _ _ _ rfl rfl rfl
theorem nearest_r {B : Int} {s : Int → Int} (ho : SOK B s) (hs : σ 93 = s) {p : Int} (hx : R32 p) (h : ¬ (0 ≤ p ∧ p ≤ 24)) : Fo g zX6_nearest [.ref 92, iv p] σ l (iv 0) 1 := by
  have hs0 : up σ 92 6 0 93 = s := (up_n (by decide)).trans hs
  have hM0 : Md σ (up σ 92 6 0) := md_th (Md.refl σ)
  have he0 : up σ 92 6 0 92 6 = 0 := up_eq
  have hp3 := p3_le ho.h7
  have hp0 := p3_pos (wH s)
  have hn40 := ho.n40
  have hnI := ho.nI
  have hH7 := ho.h7
  have hHI := ho.hI
  have hb4 := ho.halves
  have hb5 := ho.crosses
  refine Fn.of [some (.ref 92), some (iv p), none, none, none, none, none] rfl (by decide) (Nat.le_of_ble_eq_true rfl) rfl ?_
  refine g_aload0 dX6_nearest_0 ?_
  refine g_iload1 dX6_nearest_1 ?_
  refine f_cV1x (mayTone_n hx h) rfl (by decide) rfl oY_X6_mayTone oI_X6_mayTone lk_X6_309 rfl dX6_nearest_2 rfl (Or.inl rfl) ?_
  refine g_if_ne ⟨by decide, by decide⟩ (tgt := 10) dX6_nearest_5 rfl (fun h5 => absurd h5 (by decide)) (fun h5 => ?_)
  refine g_iconst dX6_nearest_8 ?_
  refine g_iretI rfl dX6_nearest_9 ?_
  exact Fo.ret rfl (md_th (Md.refl σ)) up_eq
theorem fingering_q {B : Int} {s : Int → Int} (ho : SOK B s) (hs : σ 93 = s) {p : Int} (h : 0 ≤ p ∧ p ≤ 24) : Fo g zX6_fingering [.ref 92, iv p] σ l (.float (wFg s p)) 0 := by
  have hs0 : up σ 92 6 0 93 = s := (up_n (by decide)).trans hs
  have hM0 : Md σ (up σ 92 6 0) := md_th (Md.refl σ)
  have he0 : up σ 92 6 0 92 6 = 0 := up_eq
  have hp3 := p3_le ho.h7
  have hp0 := p3_pos (wH s)
  have hn40 := ho.n40
  have hnI := ho.nI
  have hH7 := ho.h7
  have hHI := ho.hI
  have hb4 := ho.halves
  have hb5 := ho.crosses
  refine Fn.of [some (.ref 92), some (iv p), none, none, none] rfl (by decide) (Nat.le_of_ble_eq_true rfl) rfl ?_
  refine g_aload0 dX6_fingering_0 ?_
  refine g_iload1 dX6_fingering_1 ?_
  refine f_cV1x (mayTone_y (by omega) h) rfl (by decide) rfl oY_X6_mayTone oI_X6_mayTone lk_X6_309 rfl dX6_fingering_2 rfl (Or.inl rfl) ?_
  refine g_if_ne ⟨by decide, by decide⟩ (tgt := 10) dX6_fingering_5 rfl (fun h5 => ?_) (fun h5 => absurd h5 (by decide))
  refine g_aload0 dX6_fingering_10 ?_
  refine f_cV0m (laysP ho hs0) rfl (by decide) rfl oY_X6_laysPlays oI_X6_laysPlays lk_X6_177 rfl dX6_fingering_11 (by omega) (by omega) rfl (Or.inl rfl) (fun σ11 l11 h11 => ?_)
  have el1 := h11.1
  subst el1
  have hM1 := hM0.trans h11.2.1
  have he1 : σ11 92 6 = 0 := by rw [h11.2.2.2]; exact he0
  have hL1 := h11.2.2.1
  have hs1 := hM1.s hs
  refine g_aload0 dX6_fingering_14 ?_
  refine f_cV0w (many_ok ho hs1) rfl (by decide) rfl oY_X6_many oI_X6_many lk_X6_80 rfl dX6_fingering_15 rfl (Or.inl rfl) ?_
  refine g_istore2 dX6_fingering_18 rfl (by decide) ?_
  refine g_iconst dX6_fingering_19 ?_
  refine g_istore3 dX6_fingering_20 rfl (by decide) ?_
  refine g_iconst dX6_fingering_21 ?_
  refine g_istore4 dX6_fingering_22 rfl (by decide) ?_
  have loop : ∀ q : Nat, q ≤ (2 * 3 ^ wH s) → ∀ (i x : Int), i = (q : Int) → x = cnI (wT s) p q → FW g zX6_fingering 0 0 (fun o τ l' => o = .inl (some (.float (wFg s p))) ∧ l' = l11 ∧ Md σ τ ∧ τ 92 6 = 0) 24 [some (.ref 92), some (iv p), some (iv (2 * ((3 ^ wH s : Nat) : Int))), some (iv x), some (iv i)] [] σ11 l11 := by
    refine loopUp _ (fun q hq2 ih i x hi hx => ?_)
    subst hi
    subst hx
    have hcr := cnI_rng (wT s) p q
    have hTr : R32 (wT s (q : Int)) := by
      have h9 := wCn_rng ho (q : Int)
      rw [wT_eq, tonF_eq]
      split <;> constructor <;> omega
    refine g_iload4 dX6_fingering_24 ?_
    refine g_iload2 dX6_fingering_26 ?_
    refine g_icmp_ge ⟨by omega, by omega⟩ ⟨by omega, by omega⟩ (tgt := 55) dX6_fingering_27 rfl (fun h27 => ?_) (fun h27 => ?_)
    · have e9 : q = (2 * 3 ^ wH s) := by omega
      subst e9
      have hlen : ((wEt s p).length : Int) ≤ 4374 := by
        rw [wEt_in (by omega), EL_len]
        have := cnI_rng (wTe s) p (2 * 3 ^ wH s)
        omega
      refine g_iload3 dX6_fingering_55 ?_
      refine g_if_ne ⟨by omega, by omega⟩ (tgt := 63) dX6_fingering_56 rfl (fun h56 => ?_) (fun h56 => ?_)
      · refine g_aload0 dX6_fingering_63 ?_
        refine g_iload1 dX6_fingering_64 ?_
        refine f_cV1w (easyMany_m ho hs1 hL1 (by omega)) rfl (by decide) rfl oY_X6_easyMany oI_X6_easyMany lk_X6_312 rfl dX6_fingering_65 rfl (Or.inl rfl) ?_
        refine g_i2f dX6_fingering_68 ?_
        refine g_iload3 dX6_fingering_69 ?_
        refine g_i2f dX6_fingering_70 ?_
        refine g_fdiv (nn32 ⟨by omega, by omega⟩ ⟨by omega, by omega⟩) dX6_fingering_71 ?_
        refine g_freturn rfl dX6_fingering_72 ?_
        first
          | exact Fo.ret (by unfold wFg; rw [if_pos h56]) hM1 he1
          | exact Fo.ret (by unfold wFg; rw [if_neg h56]) hM1 he1
      · refine g_fconst0 dX6_fingering_59 ?_
        refine g_goto (tgt := 72) dX6_fingering_60 rfl ?_
        refine g_freturn rfl dX6_fingering_72 ?_
        first
          | exact Fo.ret (by unfold wFg; rw [if_pos h56]) hM1 he1
          | exact Fo.ret (by unfold wFg; rw [if_neg h56]) hM1 he1
    · refine g_iload3 dX6_fingering_30 ?_
      refine g_aload0 dX6_fingering_31 ?_
      refine f_getr (r := 99) rfl (by decide) rfl rfl fl_X6_30 dX6_fingering_32 ?_
      try rw [hs1]
      refine g_iload4 dX6_fingering_35 ?_
      refine f_iald rfl (by decide) ⟨by omega, by show _ < ((4374 : Nat) : Int); omega⟩ dX6_fingering_37 ?_
      try rw [hs1]
      rw [(hL1.2 (q : Int) (by omega) (by omega)).1]
      refine g_iload1 dX6_fingering_38 ?_
      refine g_icmp_ne hTr ⟨by omega, by omega⟩ (tgt := 46) dX6_fingering_39 rfl (fun h39 => ?_) (fun h39 => ?_)
      · refine g_iconst dX6_fingering_46 ?_
        refine g_iadd dX6_fingering_47 ?_
        refine g_istore3 dX6_fingering_48 rfl (by decide) ?_
        refine g_iinc4 dX6_fingering_49 rfl (by decide) ?_
        refine g_goto (tgt := 24) dX6_fingering_52 rfl ?_
        first
          | exact ih (by omega) _ _ (by omega) (by rw [cnI, if_pos h39])
          | exact ih (by omega) _ _ (by omega) (by rw [cnI, if_neg h39, Int.add_zero])
      · refine g_iconst dX6_fingering_42 ?_
        refine g_goto (tgt := 47) dX6_fingering_43 rfl ?_
        refine g_iadd dX6_fingering_47 ?_
        refine g_istore3 dX6_fingering_48 rfl (by decide) ?_
        refine g_iinc4 dX6_fingering_49 rfl (by decide) ?_
        refine g_goto (tgt := 24) dX6_fingering_52 rfl ?_
        first
          | exact ih (by omega) _ _ (by omega) (by rw [cnI, if_pos h39])
          | exact ih (by omega) _ _ (by omega) (by rw [cnI, if_neg h39, Int.add_zero])
  exact loop 0 (Nat.zero_le _) _ _ rfl rfl
theorem fingering_r {B : Int} {s : Int → Int} (ho : SOK B s) (hs : σ 93 = s) {p : Int} (hx : R32 p) (h : ¬ (0 ≤ p ∧ p ≤ 24)) : Fo g zX6_fingering [.ref 92, iv p] σ l (.float FP.fconst0) 1 := by
  have hs0 : up σ 92 6 0 93 = s := (up_n (by decide)).trans hs
  have hM0 : Md σ (up σ 92 6 0) := md_th (Md.refl σ)
  have he0 : up σ 92 6 0 92 6 = 0 := up_eq
  have hp3 := p3_le ho.h7
  have hp0 := p3_pos (wH s)
  have hn40 := ho.n40
  have hnI := ho.nI
  have hH7 := ho.h7
  have hHI := ho.hI
  have hb4 := ho.halves
  have hb5 := ho.crosses
  refine Fn.of [some (.ref 92), some (iv p), none, none, none] rfl (by decide) (Nat.le_of_ble_eq_true rfl) rfl ?_
  refine g_aload0 dX6_fingering_0 ?_
  refine g_iload1 dX6_fingering_1 ?_
  refine f_cV1x (mayTone_n hx h) rfl (by decide) rfl oY_X6_mayTone oI_X6_mayTone lk_X6_309 rfl dX6_fingering_2 rfl (Or.inl rfl) ?_
  refine g_if_ne ⟨by decide, by decide⟩ (tgt := 10) dX6_fingering_5 rfl (fun h5 => absurd h5 (by decide)) (fun h5 => ?_)
  refine g_fconst0 dX6_fingering_8 ?_
  refine g_freturn rfl dX6_fingering_9 ?_
  exact Fo.ret rfl (md_th (Md.refl σ)) up_eq
theorem easyAt0_n {B : Int} {s : Int → Int} (ho : SOK B s) (hs : σ 93 = s) (hL : LdP σ s) {t : Int} (ht : 0 ≤ t ∧ t < 25) (h : (wEt s t).length = 0) : Fw g zX6_easyAt [.ref 92, iv t, iv 0] σ l (iv (-1)) := by
  have h1 := easyAt_m (g := g) (l := l) ho hs hL ht (x := 0) ⟨by decide, by decide⟩
  rw [if_neg (fun z => by omega)] at h1
  exact h1
theorem easyAt0_y {B : Int} {s : Int → Int} (ho : SOK B s) (hs : σ 93 = s) (hL : LdP σ s) {t : Int} (ht : 0 ≤ t ∧ t < 25) (h : (wEt s t).length ≠ 0) : Fw g zX6_easyAt [.ref 92, iv t, iv 0] σ l (iv (((wEt s t).getD 0 0 : Nat) : Int)) := by
  have h1 := easyAt_m (g := g) (l := l) ho hs hL ht (x := 0) ⟨by decide, by decide⟩
  rw [if_pos ⟨by omega, by omega⟩] at h1
  exact h1
theorem wEt_0 {B : Int} {s : Int → Int} (ho : SOK B s) {t : Int} (h : (wEt s t).length ≠ 0) : (((wEt s t).getD 0 0 : Nat) : Int) ≤ 4374 := by
  have h1 := wEt_lt (getD_some (Nat.pos_of_ne_zero h))
  have hp3 := p3_le ho.h7
  omega
theorem wLkB_lt (s : Int → Int) : ∀ q, wLkB s q < 2 ^ q := by
  intro q
  induction q with
  | zero => show 0 < 1; decide
  | succ q ih => unfold wLkB; rw [Nat.pow_succ]; split <;> omega
theorem wLkB_s (s : Int → Int) (q : Nat) (h : (wEt s q).length = 0) : wLkB s q ||| 2 ^ q = wLkB s (q + 1) := by
  have h1 := Nat.two_pow_add_eq_or_of_lt (wLkB_lt s q) 1
  rw [Nat.mul_one] at h1
  rw [Nat.or_comm, ← h1, wLkB, if_pos h, Nat.add_comm]
theorem lacking_q {B : Int} {s : Int → Int} (ho : SOK B s) (hs : σ 93 = s)  : Fo g zX6_lacking [.ref 92] σ l (iv (wLkB s 25 : Int)) 0 := by
  have hs0 : up σ 92 6 0 93 = s := (up_n (by decide)).trans hs
  have hM0 : Md σ (up σ 92 6 0) := md_th (Md.refl σ)
  have he0 : up σ 92 6 0 92 6 = 0 := up_eq
  have hp3 := p3_le ho.h7
  have hp0 := p3_pos (wH s)
  have hn40 := ho.n40
  have hnI := ho.nI
  have hH7 := ho.h7
  have hHI := ho.hI
  have hb4 := ho.halves
  have hb5 := ho.crosses
  refine Fn.of [some (.ref 92), none, none] rfl (by decide) (Nat.le_of_ble_eq_true rfl) rfl ?_
  refine g_aload0 dX6_lacking_0 ?_
  refine g_iconst dX6_lacking_1 ?_
  refine f_puti (J := 6) rfl (by decide) rfl rfl fl_X6_66 rfl (fun _ _ _ h => by cases h; rfl) dX6_lacking_2 ?_
  refine g_aload0 dX6_lacking_5 ?_
  refine f_cV0m (laysP ho hs0) rfl (by decide) rfl oY_X6_laysPlays oI_X6_laysPlays lk_X6_177 rfl dX6_lacking_6 (by omega) (by omega) rfl (Or.inl rfl) (fun σ6 l6 h6 => ?_)
  have el1 := h6.1
  subst el1
  have hM1 := hM0.trans h6.2.1
  have he1 : σ6 92 6 = 0 := by rw [h6.2.2.2]; exact he0
  have hL1 := h6.2.2.1
  have hs1 := hM1.s hs
  refine g_iconst dX6_lacking_9 ?_
  refine g_istore1 dX6_lacking_10 rfl (by decide) ?_
  refine g_iconst dX6_lacking_11 ?_
  refine g_istore2 dX6_lacking_12 rfl (by decide) ?_
  have loop : ∀ q : Nat, q ≤ 25 → ∀ (i x : Int), i = (q : Int) → x = (wLkB s q : Int) → FW g zX6_lacking 0 0 (fun o τ l' => o = .inl (some (iv (wLkB s 25 : Int))) ∧ l' = l6 ∧ Md σ τ ∧ τ 92 6 = 0) 13 [some (.ref 92), some (iv x), some (iv i)] [] σ6 l6 := by
    refine loopUp _ (fun q hq2 ih i x hi hx => ?_)
    subst hi
    subst hx
    by_cases hqn : q < 25
    · by_cases hlen : (wEt s q).length = 0
      · refine g_iload2 dX6_lacking_13 ?_
        refine g_bipush dX6_lacking_14 (by decide) ?_
        refine g_icmp_ge ⟨by omega, by omega⟩ ⟨by omega, by omega⟩ (tgt := 45) dX6_lacking_16 rfl (fun h16 => absurd h16 (by omega)) (fun h16 => ?_)
        refine g_iload1 dX6_lacking_19 ?_
        refine g_aload0 dX6_lacking_20 ?_
        refine g_iload2 dX6_lacking_21 ?_
        refine g_iconst dX6_lacking_22 ?_
        refine f_cV2w (easyAt0_n ho hs1 hL1 (by omega) hlen) rfl (by decide) rfl oY_X6_easyAt oI_X6_easyAt lk_X6_315 rfl dX6_lacking_23 rfl (Or.inl rfl) ?_
        refine g_iconst dX6_lacking_26 ?_
        refine g_icmp_ne ⟨by omega, by omega⟩ ⟨by omega, by omega⟩ (tgt := 36) dX6_lacking_27 rfl (fun h27 => absurd h27 (by omega)) (fun h27 => ?_)
        refine g_iconst dX6_lacking_30 ?_
        refine g_iload2 dX6_lacking_31 ?_
        refine g_ishl (by omega) dX6_lacking_32 ?_
        rw [Int.one_mul]
        refine g_goto (tgt := 37) dX6_lacking_33 rfl ?_
        refine g_ior (a := wLkB s q) (b := 2 ^ q) dX6_lacking_37 ?_
        refine g_istore1 dX6_lacking_38 rfl (by decide) ?_
        refine g_iinc2 dX6_lacking_39 rfl (by decide) ?_
        refine g_goto (tgt := 13) dX6_lacking_42 rfl ?_
        refine ih (by omega) _ _ (by omega) ?_
        rw [wLkB_s s q hlen]
      · have hw0 := wEt_0 ho hlen
        refine g_iload2 dX6_lacking_13 ?_
        refine g_bipush dX6_lacking_14 (by decide) ?_
        refine g_icmp_ge ⟨by omega, by omega⟩ ⟨by omega, by omega⟩ (tgt := 45) dX6_lacking_16 rfl (fun h16 => absurd h16 (by omega)) (fun h16 => ?_)
        refine g_iload1 dX6_lacking_19 ?_
        refine g_aload0 dX6_lacking_20 ?_
        refine g_iload2 dX6_lacking_21 ?_
        refine g_iconst dX6_lacking_22 ?_
        refine f_cV2w (easyAt0_y ho hs1 hL1 (by omega) hlen) rfl (by decide) rfl oY_X6_easyAt oI_X6_easyAt lk_X6_315 rfl dX6_lacking_23 rfl (Or.inl rfl) ?_
        refine g_iconst dX6_lacking_26 ?_
        refine g_icmp_ne ⟨by omega, by omega⟩ ⟨by omega, by omega⟩ (tgt := 36) dX6_lacking_27 rfl (fun h27 => ?_) (fun h27 => absurd h27 (by omega))
        refine g_iconst dX6_lacking_36 ?_
        refine g_ior (a := wLkB s q) (b := 0) dX6_lacking_37 ?_
        refine g_istore1 dX6_lacking_38 rfl (by decide) ?_
        refine g_iinc2 dX6_lacking_39 rfl (by decide) ?_
        refine g_goto (tgt := 13) dX6_lacking_42 rfl ?_
        refine ih (by omega) _ _ (by omega) ?_
        rw [wLkB, if_neg hlen, Nat.or_zero]
        rfl
    · refine g_iload2 dX6_lacking_13 ?_
      refine g_bipush dX6_lacking_14 (by decide) ?_
      refine g_icmp_ge ⟨by omega, by omega⟩ ⟨by omega, by omega⟩ (tgt := 45) dX6_lacking_16 rfl (fun h16 => ?_) (fun h16 => absurd h16 (by omega))
      refine g_iload1 dX6_lacking_45 ?_
      refine g_iretI rfl dX6_lacking_46 ?_
      have e9 : q = 25 := by omega
      subst e9
      exact Fo.ret rfl hM1 he1
  exact loop 0 (Nat.zero_le _) _ _ rfl rfl
theorem lackingFrom_m {B : Int} {s : Int → Int} (ho : SOK B s) (hs : σ 93 = s) (hL : LdP σ s) {fr : Nat} (hfr : fr ≤ wN s) : Fw g zX6_lackingFrom [.ref 92, iv (fr : Int)] σ l (iv (wLk s (wTe s) 0 fr)) := by
  have hnI := ho.nI
  have hn40 := ho.n40
  have hTr : ∀ k : Nat, k < wN s → wTu s k ≤ 24 ∧ -1 ≤ wTu s k := fun k hk => by
    have := ho.tune k (by omega) (by omega)
    omega
  refine Fn.of [some (.ref 92), some (iv (fr : Int)), none] rfl (by decide) (Nat.le_of_ble_eq_true rfl) rfl ?_
  have loop : ∀ q : Nat, q ≤ wN s → fr ≤ q → wLk s (wTe s) 0 fr = lkF (wLkQ s (wTe s) 0) (wN s - q) q → ∀ i : Int, i = (q : Int) → FW g zX6_lackingFrom 0 0 (fun o σ' l' => o = .inl (some (iv (wLk s (wTe s) 0 fr))) ∧ σ' = σ ∧ l' = l) 2 [some (.ref 92), some (iv (fr : Int)), some (iv i)] [] σ l := by
    refine loopUp _ (fun q hq2 ih hfq hlk i hi => ?_)
    subst hi
    by_cases hqn : q < wN s
    · have hs2 : lkF (wLkQ s (wTe s) 0) (wN s - q) q = if wLkQ s (wTe s) 0 q = true then (q : Int) else lkF (wLkQ s (wTe s) 0) (wN s - (q + 1)) (q + 1) := by
        rw [show wN s - q = wN s - (q + 1) + 1 from by omega]
        rfl
      have hQ : wLkQ s (wTe s) 0 q = (decide (wTu s q ≠ -1) && decide ((wEt s (wTu s q)).length = 0)) := by
        unfold wLkQ wEt
        rw [Int.add_zero]
      rw [hlk, hs2] at ih
      rw [hlk, hs2]
      have hT := hTr q hqn
      by_cases ht : wTu s q = -1
      · have hQ0 : wLkQ s (wTe s) 0 q = false := by rw [hQ, decide_eq_false (fun z => z ht)]; rfl
        rw [hQ0, if_neg (by decide)] at ih ⊢
        refine g_iload2 dX6_lackingFrom_2 ?_
        refine g_aload0 dX6_lackingFrom_3 ?_
        refine f_getr (r := 93) rfl (by decide) rfl rfl fl_X6_7 dX6_lackingFrom_4 ?_
        try rw [hs]
        refine g_bipush dX6_lackingFrom_7 (by decide) ?_
        refine f_iald rfl (by decide) ⟨by omega, by show _ < ((67 : Nat) : Int); omega⟩ dX6_lackingFrom_9 ?_
        try rw [hs]
        refine g_icmp_ge ⟨by omega, by omega⟩ ⟨by omega, by omega⟩ (tgt := 43) dX6_lackingFrom_10 rfl (fun h10 => absurd h10 (by omega)) (fun h10 => ?_)
        refine g_aload0 dX6_lackingFrom_13 ?_
        refine g_iload2 dX6_lackingFrom_14 ?_
        refine f_cV1w (isNoted_m ho hs (k := q) (by omega)) rfl (by decide) rfl oY_X6_isNoted oI_X6_isNoted lk_X6_152 rfl dX6_lackingFrom_15 rfl (Or.inl rfl) ?_
        refine g_ifeqB (tgt := 37) dX6_lackingFrom_18 rfl (fun h18 => ?_) (fun h18 => absurd h18 (fun z => absurd ht z.2))
        refine g_iinc2 dX6_lackingFrom_37 rfl (by decide) ?_
        refine g_goto (tgt := 2) dX6_lackingFrom_40 rfl ?_
        exact ih (by omega) (by omega) rfl _ (by omega)
      · by_cases hlen : (wEt s (wTu s q)).length = 0
        · have hQ1 : wLkQ s (wTe s) 0 q = true := by rw [hQ, decide_eq_true ht, decide_eq_true hlen]; rfl
          rw [hQ1, if_pos rfl]
          refine g_iload2 dX6_lackingFrom_2 ?_
          refine g_aload0 dX6_lackingFrom_3 ?_
          refine f_getr (r := 93) rfl (by decide) rfl rfl fl_X6_7 dX6_lackingFrom_4 ?_
          try rw [hs]
          refine g_bipush dX6_lackingFrom_7 (by decide) ?_
          refine f_iald rfl (by decide) ⟨by omega, by show _ < ((67 : Nat) : Int); omega⟩ dX6_lackingFrom_9 ?_
          try rw [hs]
          refine g_icmp_ge ⟨by omega, by omega⟩ ⟨by omega, by omega⟩ (tgt := 43) dX6_lackingFrom_10 rfl (fun h10 => absurd h10 (by omega)) (fun h10 => ?_)
          refine g_aload0 dX6_lackingFrom_13 ?_
          refine g_iload2 dX6_lackingFrom_14 ?_
          refine f_cV1w (isNoted_m ho hs (k := q) (by omega)) rfl (by decide) rfl oY_X6_isNoted oI_X6_isNoted lk_X6_152 rfl dX6_lackingFrom_15 rfl (Or.inl rfl) ?_
          refine g_ifeqB (tgt := 37) dX6_lackingFrom_18 rfl (fun h18 => absurd h18 (fun z => z ⟨by omega, ht⟩)) (fun h18 => ?_)
          refine g_aload0 dX6_lackingFrom_21 ?_
          refine g_aload0 dX6_lackingFrom_22 ?_
          refine g_iload2 dX6_lackingFrom_23 ?_
          refine f_cV1w (toneAt_m hs (k := q) (by omega)) rfl (by decide) rfl oY_X6_toneAt oI_X6_toneAt lk_X6_143 rfl dX6_lackingFrom_24 rfl (Or.inl rfl) ?_
          refine g_iconst dX6_lackingFrom_27 ?_
          refine f_cV2w (easyAt0_n ho hs hL (by omega) hlen) rfl (by decide) rfl oY_X6_easyAt oI_X6_easyAt lk_X6_315 rfl dX6_lackingFrom_28 rfl (Or.inl rfl) ?_
          refine g_iconst dX6_lackingFrom_31 ?_
          refine g_icmp_ne ⟨by omega, by omega⟩ ⟨by omega, by omega⟩ (tgt := 37) dX6_lackingFrom_32 rfl (fun h32 => absurd h32 (by omega)) (fun h32 => ?_)
          refine g_iload2 dX6_lackingFrom_35 ?_
          refine g_iretI rfl dX6_lackingFrom_36 ?_
          exact Fw.ret rfl
        · have hQ0 : wLkQ s (wTe s) 0 q = false := by rw [hQ, decide_eq_false hlen, Bool.and_false]
          have hw0 := wEt_0 ho hlen
          rw [hQ0, if_neg (by decide)] at ih ⊢
          refine g_iload2 dX6_lackingFrom_2 ?_
          refine g_aload0 dX6_lackingFrom_3 ?_
          refine f_getr (r := 93) rfl (by decide) rfl rfl fl_X6_7 dX6_lackingFrom_4 ?_
          try rw [hs]
          refine g_bipush dX6_lackingFrom_7 (by decide) ?_
          refine f_iald rfl (by decide) ⟨by omega, by show _ < ((67 : Nat) : Int); omega⟩ dX6_lackingFrom_9 ?_
          try rw [hs]
          refine g_icmp_ge ⟨by omega, by omega⟩ ⟨by omega, by omega⟩ (tgt := 43) dX6_lackingFrom_10 rfl (fun h10 => absurd h10 (by omega)) (fun h10 => ?_)
          refine g_aload0 dX6_lackingFrom_13 ?_
          refine g_iload2 dX6_lackingFrom_14 ?_
          refine f_cV1w (isNoted_m ho hs (k := q) (by omega)) rfl (by decide) rfl oY_X6_isNoted oI_X6_isNoted lk_X6_152 rfl dX6_lackingFrom_15 rfl (Or.inl rfl) ?_
          refine g_ifeqB (tgt := 37) dX6_lackingFrom_18 rfl (fun h18 => absurd h18 (fun z => z ⟨by omega, ht⟩)) (fun h18 => ?_)
          refine g_aload0 dX6_lackingFrom_21 ?_
          refine g_aload0 dX6_lackingFrom_22 ?_
          refine g_iload2 dX6_lackingFrom_23 ?_
          refine f_cV1w (toneAt_m hs (k := q) (by omega)) rfl (by decide) rfl oY_X6_toneAt oI_X6_toneAt lk_X6_143 rfl dX6_lackingFrom_24 rfl (Or.inl rfl) ?_
          refine g_iconst dX6_lackingFrom_27 ?_
          refine f_cV2w (easyAt0_y ho hs hL (by omega) hlen) rfl (by decide) rfl oY_X6_easyAt oI_X6_easyAt lk_X6_315 rfl dX6_lackingFrom_28 rfl (Or.inl rfl) ?_
          refine g_iconst dX6_lackingFrom_31 ?_
          refine g_icmp_ne ⟨by omega, by omega⟩ ⟨by omega, by omega⟩ (tgt := 37) dX6_lackingFrom_32 rfl (fun h32 => ?_) (fun h32 => absurd h32 (by omega))
          refine g_iinc2 dX6_lackingFrom_37 rfl (by decide) ?_
          refine g_goto (tgt := 2) dX6_lackingFrom_40 rfl ?_
          exact ih (by omega) (by omega) rfl _ (by omega)
    · have e9 : q = wN s := by omega
      subst e9
      rw [hlk, Nat.sub_self]
      refine g_iload2 dX6_lackingFrom_2 ?_
      refine g_aload0 dX6_lackingFrom_3 ?_
      refine f_getr (r := 93) rfl (by decide) rfl rfl fl_X6_7 dX6_lackingFrom_4 ?_
      try rw [hs]
      refine g_bipush dX6_lackingFrom_7 (by decide) ?_
      refine f_iald rfl (by decide) ⟨by omega, by show _ < ((67 : Nat) : Int); omega⟩ dX6_lackingFrom_9 ?_
      try rw [hs]
      refine g_icmp_ge ⟨by omega, by omega⟩ ⟨by omega, by omega⟩ (tgt := 43) dX6_lackingFrom_10 rfl (fun h10 => ?_) (fun h10 => absurd h10 (by omega))
      refine g_iconst dX6_lackingFrom_43 ?_
      refine g_iretI rfl dX6_lackingFrom_44 ?_
      exact Fw.ret rfl
  refine g_iload1 dX6_lackingFrom_0 ?_
  refine g_istore2 dX6_lackingFrom_1 rfl (by decide) ?_
  exact loop fr hfr (Nat.le_refl _) rfl _ rfl
theorem isPlayable_q {B : Int} {s : Int → Int} (ho : SOK B s) (hs : σ 93 = s)  : Fo g zX6_isPlayable [.ref 92] σ l (bv (wLk s (wTe s) 0 0 = -1)) 0 := by
  have hs0 : up σ 92 6 0 93 = s := (up_n (by decide)).trans hs
  have hM0 : Md σ (up σ 92 6 0) := md_th (Md.refl σ)
  have he0 : up σ 92 6 0 92 6 = 0 := up_eq
  have hp3 := p3_le ho.h7
  have hp0 := p3_pos (wH s)
  have hn40 := ho.n40
  have hnI := ho.nI
  have hH7 := ho.h7
  have hHI := ho.hI
  have hb4 := ho.halves
  have hb5 := ho.crosses
  have hR : R32 (wLk s (wTe s) 0 0) := by
    have := wLk_rng (s := s) (TE := wTe s) (b := 0) (pl := 0) (Nat.zero_le _)
    exact ⟨by omega, by omega⟩
  refine Fn.of [some (.ref 92)] rfl (by decide) (Nat.le_of_ble_eq_true rfl) rfl ?_
  refine g_aload0 dX6_isPlayable_0 ?_
  refine g_iconst dX6_isPlayable_1 ?_
  refine f_puti (J := 6) rfl (by decide) rfl rfl fl_X6_66 rfl (fun _ _ _ h => by cases h; rfl) dX6_isPlayable_2 ?_
  refine g_aload0 dX6_isPlayable_5 ?_
  refine f_cV0m (laysP ho hs0) rfl (by decide) rfl oY_X6_laysPlays oI_X6_laysPlays lk_X6_177 rfl dX6_isPlayable_6 (by omega) (by omega) rfl (Or.inl rfl) (fun σ6 l6 h6 => ?_)
  have el1 := h6.1
  subst el1
  have hM1 := hM0.trans h6.2.1
  have he1 : σ6 92 6 = 0 := by rw [h6.2.2.2]; exact he0
  have hL1 := h6.2.2.1
  have hs1 := hM1.s hs
  refine g_aload0 dX6_isPlayable_9 ?_
  refine g_iconst dX6_isPlayable_10 ?_
  refine f_cV1w (lackingFrom_m (fr := 0) ho hs1 hL1 (Nat.zero_le _)) rfl (by decide) rfl oY_X6_lackingFrom oI_X6_lackingFrom lk_X6_333 rfl dX6_isPlayable_11 rfl (Or.inl rfl) ?_
  refine g_iconst dX6_isPlayable_14 ?_
  refine g_icmp_ne hR ⟨by omega, by omega⟩ (tgt := 22) dX6_isPlayable_15 rfl (fun h15 => ?_) (fun h15 => ?_)
  · refine g_iconst dX6_isPlayable_22 ?_
    refine g_iretB (Or.inl rfl) rfl dX6_isPlayable_23 ?_
    first
      | exact Fo.ret (bvF h15).symm hM1 he1
      | exact Fo.ret (bvT h15).symm hM1 he1
  · refine g_iconst dX6_isPlayable_18 ?_
    refine g_goto (tgt := 23) dX6_isPlayable_19 rfl ?_
    refine g_iretB (Or.inr rfl) rfl dX6_isPlayable_23 ?_
    first
      | exact Fo.ret (bvF h15).symm hM1 he1
      | exact Fo.ret (bvT h15).symm hM1 he1
theorem firstLacking_q {B : Int} {s : Int → Int} (ho : SOK B s) (hs : σ 93 = s)  : Fo g zX6_firstLacking [.ref 92] σ l (iv (wLk s (wTe s) 0 0)) 0 := by
  have hs0 : up σ 92 6 0 93 = s := (up_n (by decide)).trans hs
  have hM0 : Md σ (up σ 92 6 0) := md_th (Md.refl σ)
  have he0 : up σ 92 6 0 92 6 = 0 := up_eq
  have hp3 := p3_le ho.h7
  have hp0 := p3_pos (wH s)
  have hn40 := ho.n40
  have hnI := ho.nI
  have hH7 := ho.h7
  have hHI := ho.hI
  have hb4 := ho.halves
  have hb5 := ho.crosses
  have hR : R32 (wLk s (wTe s) 0 0) := by
    have := wLk_rng (s := s) (TE := wTe s) (b := 0) (pl := 0) (Nat.zero_le _)
    exact ⟨by omega, by omega⟩
  refine Fn.of [some (.ref 92)] rfl (by decide) (Nat.le_of_ble_eq_true rfl) rfl ?_
  refine g_aload0 dX6_firstLacking_0 ?_
  refine g_iconst dX6_firstLacking_1 ?_
  refine f_puti (J := 6) rfl (by decide) rfl rfl fl_X6_66 rfl (fun _ _ _ h => by cases h; rfl) dX6_firstLacking_2 ?_
  refine g_aload0 dX6_firstLacking_5 ?_
  refine f_cV0m (laysP ho hs0) rfl (by decide) rfl oY_X6_laysPlays oI_X6_laysPlays lk_X6_177 rfl dX6_firstLacking_6 (by omega) (by omega) rfl (Or.inl rfl) (fun σ6 l6 h6 => ?_)
  have el1 := h6.1
  subst el1
  have hM1 := hM0.trans h6.2.1
  have he1 : σ6 92 6 = 0 := by rw [h6.2.2.2]; exact he0
  have hL1 := h6.2.2.1
  have hs1 := hM1.s hs
  refine g_aload0 dX6_firstLacking_9 ?_
  refine g_iconst dX6_firstLacking_10 ?_
  refine f_cV1w (lackingFrom_m (fr := 0) ho hs1 hL1 (Nat.zero_le _)) rfl (by decide) rfl oY_X6_lackingFrom oI_X6_lackingFrom lk_X6_333 rfl dX6_firstLacking_11 rfl (Or.inl rfl) ?_
  refine g_iretI rfl dX6_firstLacking_14 ?_
  exact Fo.ret rfl hM1 he1
end C75
