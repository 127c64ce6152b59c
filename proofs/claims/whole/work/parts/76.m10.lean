/-! The model's questions, the way -/
section C76
variable {g : gT} {σ : sT} {l : Nat → Nat}
theorem EL_0 {f : Int → Int} {t : Int} {n : Nat} : (EL f t n).length = 0 ↔ cnI f t n = 0 := by
  have := EL_len f t n
  omega
theorem hasPlay_m {B : Int} {s : Int → Int} (ho : SOK B s) (hs : σ 93 = s) (hL : LdP σ s) {t m mc : Int} (ht : 0 ≤ t ∧ t < 25) (hm : R32 m) (hmc : R32 mc) : Fw g zX6_hasPlay [.ref 92, iv t, iv m, iv mc] σ l (bv ((EP (wTE s m mc) (2 * 3 ^ wH s) t).length ≠ 0)) := by
  have hp3 := p3_le ho.h7
  have hp0 := p3_pos (wH s)
  have hEP : EP (wTE s m mc) (2 * 3 ^ wH s) t = EL (wTE s m mc) t (2 * 3 ^ wH s) := by unfold EP; rw [if_pos ht]
  have hEl := EL_len (wTE s m mc) t (2 * 3 ^ wH s)
  rw [hEP]
  refine Fn.of [some (.ref 92), some (iv t), some (iv m), some (iv mc), none, none] rfl (by decide) (Nat.le_of_ble_eq_true rfl) rfl ?_
  have loop : ∀ q : Nat, q ≤ (2 * 3 ^ wH s) → cnI (wTE s m mc) t q = 0 → ∀ i : Int, i = (q : Int) → FW g zX6_hasPlay 0 0 (fun o σ' l' => o = .inl (some (bv ((EL (wTE s m mc) t (2 * 3 ^ wH s)).length ≠ 0))) ∧ σ' = σ ∧ l' = l) 9 [some (.ref 92), some (iv t), some (iv m), some (iv mc), some (iv (2 * ((3 ^ wH s : Nat) : Int))), some (iv i)] [] σ l := by
    refine loopUp _ (fun q hq2 ih hcn i hi => ?_)
    subst hi
    have hcs : cnI (wTE s m mc) t (q + 1) = cnI (wTE s m mc) t q + (if wTE s m mc q = t then 1 else 0) := rfl
    refine g_iload5 dX6_hasPlay_9 ?_
    refine g_iload4 dX6_hasPlay_11 ?_
    refine g_icmp_ge ⟨by omega, by omega⟩ ⟨by omega, by omega⟩ (tgt := 36) dX6_hasPlay_13 rfl (fun h13 => ?_) (fun h13 => ?_)
    · refine g_iconst dX6_hasPlay_36 ?_
      refine g_iretB (Or.inl rfl) rfl dX6_hasPlay_37 ?_
      have e9 : q = (2 * 3 ^ wH s) := by omega
      subst e9
      exact Fw.ret0 (fun z => by omega)
    · refine g_aload0 dX6_hasPlay_16 ?_
      refine g_iload5 dX6_hasPlay_17 ?_
      refine g_iload1 dX6_hasPlay_19 ?_
      refine g_iload2 dX6_hasPlay_20 ?_
      refine g_iload3 dX6_hasPlay_21 ?_
      refine f_cV4w (isGood_m ho hL ⟨by omega, by omega⟩ ⟨by omega, by omega⟩ hm hmc) rfl (by decide) rfl oY_X6_isGood oI_X6_isGood lk_X6_139 rfl dX6_hasPlay_22 rfl (Or.inl rfl) ?_
      refine g_ifeqB (tgt := 30) dX6_hasPlay_25 rfl (fun h25 => ?_) (fun h25 => ?_)
      · refine g_iinc5 dX6_hasPlay_30 rfl (by decide) ?_
        refine g_goto (tgt := 9) dX6_hasPlay_33 rfl ?_
        exact ih (by omega) (by rw [hcs, if_neg h25, hcn]; rfl) _ (by omega)
      · refine g_iconst dX6_hasPlay_28 ?_
        refine g_iretB (Or.inr rfl) rfl dX6_hasPlay_29 ?_
        have hmo := cnI_mono (wTE s m mc) t (show q + 1 ≤ (2 * 3 ^ wH s) by omega)
        rw [if_pos h25] at hcs
        exact Fw.ret1 (by omega)
  refine g_aload0 dX6_hasPlay_0 ?_
  refine f_cV0w (many_ok ho hs) rfl (by decide) rfl oY_X6_many oI_X6_many lk_X6_80 rfl dX6_hasPlay_1 rfl (Or.inl rfl) ?_
  refine g_istore4 dX6_hasPlay_4 rfl (by decide) ?_
  refine g_iconst dX6_hasPlay_6 ?_
  refine g_istore5 dX6_hasPlay_7 rfl (by decide) ?_
  exact loop 0 (Nat.zero_le _) rfl _ rfl
theorem plB_le {s : Int → Int} {m mc : Int} {q n : Nat} (h : q ≤ n) (hn : plB s m mc n = true) : plB s m mc q = true := by
  induction n with
  | zero => rw [show q = 0 from by omega]; exact hn
  | succ n ih =>
    by_cases e : q = n + 1
    · rw [e]; exact hn
    · unfold plB at hn
      rw [Bool.and_eq_true] at hn
      exact ih (by omega) hn.1
theorem isPlayableWith_m {B : Int} {s : Int → Int} (ho : SOK B s) (hs : σ 93 = s) (hL : LdP σ s) {m mc : Int} (hm : R32 m) (hmc : R32 mc) : Fw g zX6_isPlayableWith [.ref 92, iv m, iv mc] σ l (bv (plB s m mc (wN s) = true)) := by
  have hnI := ho.nI
  have hn40 := ho.n40
  have hTr : ∀ k : Nat, k < wN s → wTu s k ≤ 24 ∧ -1 ≤ wTu s k := fun k hk => by
    have := ho.tune k (by omega) (by omega)
    omega
  refine Fn.of [some (.ref 92), some (iv m), some (iv mc), none, none] rfl (by decide) (Nat.le_of_ble_eq_true rfl) rfl ?_
  have loop : ∀ q : Nat, q ≤ wN s → ∀ (i x : Int), i = (q : Int) → x = (if plB s m mc q = true then 1 else 0) → FW g zX6_isPlayableWith 0 0 (fun o σ' l' => o = .inl (some (bv (plB s m mc (wN s) = true))) ∧ σ' = σ ∧ l' = l) 5 [some (.ref 92), some (iv m), some (iv mc), some (iv x), some (iv i)] [] σ l := by
    refine loopUp _ (fun q hq2 ih i x hi hx => ?_)
    subst hi
    have hx01 : 0 ≤ x ∧ x ≤ 1 := by rw [hx]; split <;> omega
    by_cases hqn : q < wN s
    · have hT := hTr q hqn
      have hps : plB s m mc (q + 1) = (plB s m mc q && (decide (wTu s q = -1) || decide ((EP (wTE s m mc) (2 * 3 ^ wH s) (wTu s q)).length ≠ 0))) := rfl
      by_cases hpq : plB s m mc q = true
      · rw [if_pos hpq] at hx
        subst hx
        refine g_iload4 dX6_isPlayableWith_5 ?_
        refine g_aload0 dX6_isPlayableWith_7 ?_
        refine f_getr (r := 93) rfl (by decide) rfl rfl fl_X6_7 dX6_isPlayableWith_8 ?_
        try rw [hs]
        refine g_bipush dX6_isPlayableWith_11 (by decide) ?_
        refine f_iald rfl (by decide) ⟨by omega, by show _ < ((67 : Nat) : Int); omega⟩ dX6_isPlayableWith_13 ?_
        try rw [hs]
        refine g_icmp_ge ⟨by omega, by omega⟩ ⟨by omega, by omega⟩ (tgt := 57) dX6_isPlayableWith_14 rfl (fun h14 => absurd h14 (by omega)) (fun h14 => ?_)
        refine g_iload3 dX6_isPlayableWith_17 ?_
        refine g_if_eq ⟨by decide, by decide⟩ (tgt := 57) dX6_isPlayableWith_18 rfl (fun h18 => absurd h18 (by decide)) (fun h18 => ?_)
        refine g_aload0 dX6_isPlayableWith_21 ?_
        refine g_iload4 dX6_isPlayableWith_22 ?_
        refine f_cV1w (isNoted_m ho hs (k := q) (by omega)) rfl (by decide) rfl oY_X6_isNoted oI_X6_isNoted lk_X6_152 rfl dX6_isPlayableWith_24 rfl (Or.inl rfl) ?_
        refine g_ifeqB (tgt := 45) dX6_isPlayableWith_27 rfl (fun h27 => ?_) (fun h27 => ?_)
        · refine g_iconst dX6_isPlayableWith_45 ?_
          refine g_goto (tgt := 50) dX6_isPlayableWith_46 rfl ?_
          refine g_istore3 dX6_isPlayableWith_50 rfl (by decide) ?_
          refine g_iinc4 dX6_isPlayableWith_51 rfl (by decide) ?_
          refine g_goto (tgt := 5) dX6_isPlayableWith_54 rfl ?_
          first
            | (have y : wTu s q = -1 := Classical.byContradiction (fun z => h27 ⟨by omega, z⟩)
               exact ih (by omega) _ _ (by omega) (by rw [hps, hpq, decide_eq_true y]; rfl))
            | (have y := decide_eq_true h42
               exact ih (by omega) _ _ (by omega) (by rw [hps, hpq, y, Bool.or_true]; rfl))
            | (have y : decide ((EP (wTE s m mc) (2 * 3 ^ wH s) (wTu s q)).length ≠ 0) = false := decide_eq_false h42
               exact ih (by omega) _ _ (by omega) (by rw [hps, hpq, y, decide_eq_false h27.2]; rfl))
        · refine g_aload0 dX6_isPlayableWith_30 ?_
          refine g_aload0 dX6_isPlayableWith_31 ?_
          refine g_iload4 dX6_isPlayableWith_32 ?_
          refine f_cV1w (toneAt_m hs (k := q) (by omega)) rfl (by decide) rfl oY_X6_toneAt oI_X6_toneAt lk_X6_143 rfl dX6_isPlayableWith_34 rfl (Or.inl rfl) ?_
          refine g_iload1 dX6_isPlayableWith_37 ?_
          refine g_iload2 dX6_isPlayableWith_38 ?_
          refine f_cV3w (hasPlay_m ho hs hL ⟨by omega, by omega⟩ hm hmc) rfl (by decide) rfl oY_X6_hasPlay oI_X6_hasPlay lk_X6_357 rfl dX6_isPlayableWith_39 rfl (Or.inl rfl) ?_
          refine g_ifeqB (tgt := 49) dX6_isPlayableWith_42 rfl (fun h42 => ?_) (fun h42 => ?_)
          · refine g_iconst dX6_isPlayableWith_49 ?_
            refine g_istore3 dX6_isPlayableWith_50 rfl (by decide) ?_
            refine g_iinc4 dX6_isPlayableWith_51 rfl (by decide) ?_
            refine g_goto (tgt := 5) dX6_isPlayableWith_54 rfl ?_
            first
              | (have y : wTu s q = -1 := Classical.byContradiction (fun z => h27 ⟨by omega, z⟩)
                 exact ih (by omega) _ _ (by omega) (by rw [hps, hpq, decide_eq_true y]; rfl))
              | (have y := decide_eq_true h42
                 exact ih (by omega) _ _ (by omega) (by rw [hps, hpq, y, Bool.or_true]; rfl))
              | (have y : decide ((EP (wTE s m mc) (2 * 3 ^ wH s) (wTu s q)).length ≠ 0) = false := decide_eq_false h42
                 exact ih (by omega) _ _ (by omega) (by rw [hps, hpq, y, decide_eq_false h27.2]; rfl))
          · refine g_iconst dX6_isPlayableWith_45 ?_
            refine g_goto (tgt := 50) dX6_isPlayableWith_46 rfl ?_
            refine g_istore3 dX6_isPlayableWith_50 rfl (by decide) ?_
            refine g_iinc4 dX6_isPlayableWith_51 rfl (by decide) ?_
            refine g_goto (tgt := 5) dX6_isPlayableWith_54 rfl ?_
            first
              | (have y : wTu s q = -1 := Classical.byContradiction (fun z => h27 ⟨by omega, z⟩)
                 exact ih (by omega) _ _ (by omega) (by rw [hps, hpq, decide_eq_true y]; rfl))
              | (have y := decide_eq_true h42
                 exact ih (by omega) _ _ (by omega) (by rw [hps, hpq, y, Bool.or_true]; rfl))
              | (have y : decide ((EP (wTE s m mc) (2 * 3 ^ wH s) (wTu s q)).length ≠ 0) = false := decide_eq_false h42
                 exact ih (by omega) _ _ (by omega) (by rw [hps, hpq, y, decide_eq_false h27.2]; rfl))
      · rw [if_neg hpq] at hx
        subst hx
        have hpn : ¬ plB s m mc (wN s) = true := fun z => hpq (plB_le (by omega) z)
        refine g_iload4 dX6_isPlayableWith_5 ?_
        refine g_aload0 dX6_isPlayableWith_7 ?_
        refine f_getr (r := 93) rfl (by decide) rfl rfl fl_X6_7 dX6_isPlayableWith_8 ?_
        try rw [hs]
        refine g_bipush dX6_isPlayableWith_11 (by decide) ?_
        refine f_iald rfl (by decide) ⟨by omega, by show _ < ((67 : Nat) : Int); omega⟩ dX6_isPlayableWith_13 ?_
        try rw [hs]
        refine g_icmp_ge ⟨by omega, by omega⟩ ⟨by omega, by omega⟩ (tgt := 57) dX6_isPlayableWith_14 rfl (fun h14 => absurd h14 (by omega)) (fun h14 => ?_)
        refine g_iload3 dX6_isPlayableWith_17 ?_
        refine g_if_eq ⟨by decide, by decide⟩ (tgt := 57) dX6_isPlayableWith_18 rfl (fun h18 => ?_) (fun h18 => absurd h18 (by decide))
        refine g_iload3 dX6_isPlayableWith_57 ?_
        refine g_iretB (Or.inl rfl) rfl dX6_isPlayableWith_58 ?_
        exact Fw.ret0 hpn
    · have e9 : q = wN s := by omega
      subst e9
      refine g_iload4 dX6_isPlayableWith_5 ?_
      refine g_aload0 dX6_isPlayableWith_7 ?_
      refine f_getr (r := 93) rfl (by decide) rfl rfl fl_X6_7 dX6_isPlayableWith_8 ?_
      try rw [hs]
      refine g_bipush dX6_isPlayableWith_11 (by decide) ?_
      refine f_iald rfl (by decide) ⟨by omega, by show _ < ((67 : Nat) : Int); omega⟩ dX6_isPlayableWith_13 ?_
      try rw [hs]
      refine g_icmp_ge ⟨by omega, by omega⟩ ⟨by omega, by omega⟩ (tgt := 57) dX6_isPlayableWith_14 rfl (fun h14 => ?_) (fun h14 => absurd h14 (by omega))
      refine g_iload3 dX6_isPlayableWith_57 ?_
      refine g_iretB (show x = 0 ∨ x = 1 by omega) rfl dX6_isPlayableWith_58 ?_
      exact Fw.retV (by rw [hx])
  refine g_iconst dX6_isPlayableWith_0 ?_
  refine g_istore3 dX6_isPlayableWith_1 rfl (by decide) ?_
  refine g_iconst dX6_isPlayableWith_2 ?_
  refine g_istore4 dX6_isPlayableWith_3 rfl (by decide) ?_
  exact loop 0 (Nat.zero_le _) _ _ rfl rfl
theorem lvI_neg (s : Int → Int) (t : Nat) : ∀ f h : Nat, t < h → lvI s t f h = -1 := by
  intro f
  induction f with
  | zero => intro h _; rfl
  | succ f ih =>
    intro h hh
    unfold lvI
    rw [if_neg (fun z => by omega)]
    exact ih (h + 1) (by omega)
theorem lvI_s (s : Int → Int) (t f h : Nat) : lvI s t (f + 1) h = if 0 ≤ (t : Int) - (h : Int) ∧ (t : Int) - (h : Int) ≤ 3 ∧ plB s (h : Int) ((t : Int) - (h : Int)) (wN s) = true then 10 * (h : Int) + ((t : Int) - (h : Int)) else lvI s t f (h + 1) := rfl
theorem lvO_s (s : Int → Int) (f t : Nat) : lvO s (f + 1) t = if lvI s t 3 0 = -1 then lvO s f (t + 1) else lvI s t 3 0 := rfl
theorem level_q {B : Int} {s : Int → Int} (ho : SOK B s) (hs : σ 93 = s)  : Fo g zX6_level [.ref 92] σ l (iv (lvO s 6 0)) 0 := by
  have hs0 : up σ 92 6 0 93 = s := (up_n (by decide)).trans hs
  have hM0 : Md σ (up σ 92 6 0) := md_th (Md.refl σ)
  have he0 : up σ 92 6 0 92 6 = 0 := up_eq
  have hp3 := p3_le ho.h7
  have hp0 := p3_pos (wH s)
  have hn40 := ho.n40
  have hnI := ho.nI
  have hH7 := ho.h7
  have hHI := ho.hI
  have hb4 := ho.halves
  have hb5 := ho.crosses
  refine Fn.of [some (.ref 92), none, none] rfl (by decide) (Nat.le_of_ble_eq_true rfl) rfl ?_
  refine g_aload0 dX6_level_0 ?_
  refine g_iconst dX6_level_1 ?_
  refine f_puti (J := 6) rfl (by decide) rfl rfl fl_X6_66 rfl (fun _ _ _ h => by cases h; rfl) dX6_level_2 ?_
  refine g_aload0 dX6_level_5 ?_
  refine f_cV0m (laysP ho hs0) rfl (by decide) rfl oY_X6_laysPlays oI_X6_laysPlays lk_X6_177 rfl dX6_level_6 (by omega) (by omega) rfl (Or.inl rfl) (fun σ6 l6 h6 => ?_)
  have el1 := h6.1
  subst el1
  have hM1 := hM0.trans h6.2.1
  have he1 : σ6 92 6 = 0 := by rw [h6.2.2.2]; exact he0
  have hL1 := h6.2.2.1
  have hs1 := hM1.s hs
  refine g_iconst dX6_level_9 ?_
  refine g_istore1 dX6_level_10 rfl (by decide) ?_
  have outer : ∀ q : Nat, q ≤ 6 → lvO s 6 0 = lvO s (6 - q) q → ∀ (i : Int) (u2 : Option Value), i = (q : Int) → FW g zX6_level 0 0 (fun o τ l' => o = .inl (some (iv (lvO s 6 0))) ∧ l' = l6 ∧ Md σ τ ∧ τ 92 6 = 0) 11 [some (.ref 92), some (iv i), u2] [] σ6 l6 := by
    refine loopUp _ (fun q hq2 ih hlv i u2 hi => ?_)
    subst hi
    by_cases hq6 : q < 6
    · have hst := lvO_s s (6 - (q + 1)) q
      rw [show 6 - (q + 1) + 1 = 6 - q from by omega] at hst
      have inner : ∀ h : Nat, h ≤ 3 → lvI s q 3 0 = lvI s q (3 - h) h → ∀ (j : Int), j = (h : Int) → FW g zX6_level 0 0 (fun o τ l' => o = .inl (some (iv (lvO s 6 0))) ∧ l' = l6 ∧ Md σ τ ∧ τ 92 6 = 0) 18 [some (.ref 92), some (iv (q : Int)), some (iv j)] [] σ6 l6 := by
        refine loopUp _ (fun h hh2 ih2 hin j hj => ?_)
        subst hj
        by_cases hhq : h ≤ 2 ∧ h ≤ q
        · have hsi := lvI_s s q (3 - (h + 1)) h
          rw [show 3 - (h + 1) + 1 = 3 - h from by omega] at hsi
          refine g_iload2 dX6_level_18 ?_
          refine g_iconst dX6_level_19 ?_
          refine g_iload1 dX6_level_20 ?_
          refine g_mmin ⟨by omega, by omega⟩ ⟨by omega, by omega⟩ ma_X6_146 ⟨by decide, Nat.le_of_ble_eq_true rfl⟩ dX6_level_21 ?_
          refine g_icmp_gt ⟨by omega, by omega⟩ ⟨by omega, by omega⟩ (tgt := 60) dX6_level_24 rfl (fun h24 => absurd h24 (by omega)) (fun h24 => ?_)
          refine g_iload1 dX6_level_27 ?_
          refine g_iload2 dX6_level_28 ?_
          refine g_isub dX6_level_29 ?_
          refine g_iconst dX6_level_30 ?_
          refine g_icmp_gt ⟨by omega, by omega⟩ ⟨by omega, by omega⟩ (tgt := 54) dX6_level_31 rfl (fun h31 => ?_) (fun h31 => ?_)
          · refine g_iinc2 dX6_level_54 rfl (by decide) ?_
            refine g_goto (tgt := 18) dX6_level_57 rfl ?_
            first
              | exact ih2 (by omega) (by rw [hin, hsi, if_neg (fun z => by omega)]) _ (by omega)
              | exact ih2 (by omega) (by rw [hin, hsi, if_neg (fun z => h42 z.2.2)]) _ (by omega)
          · refine g_aload0 dX6_level_34 ?_
            refine g_iload2 dX6_level_35 ?_
            refine g_iload1 dX6_level_36 ?_
            refine g_iload2 dX6_level_37 ?_
            refine g_isub dX6_level_38 ?_
            refine f_cV2w (isPlayableWith_m ho hs1 hL1 ⟨by omega, by omega⟩ ⟨by omega, by omega⟩) rfl (by decide) rfl oY_X6_isPlayableWith oI_X6_isPlayableWith lk_X6_361 rfl dX6_level_39 rfl (Or.inl rfl) ?_
            refine g_ifeqB (tgt := 54) dX6_level_42 rfl (fun h42 => ?_) (fun h42 => ?_)
            · refine g_iinc2 dX6_level_54 rfl (by decide) ?_
              refine g_goto (tgt := 18) dX6_level_57 rfl ?_
              first
                | exact ih2 (by omega) (by rw [hin, hsi, if_neg (fun z => by omega)]) _ (by omega)
                | exact ih2 (by omega) (by rw [hin, hsi, if_neg (fun z => h42 z.2.2)]) _ (by omega)
            · refine g_bipush dX6_level_45 (by decide) ?_
              refine g_iload2 dX6_level_47 ?_
              refine g_imul dX6_level_48 ?_
              refine g_iload1 dX6_level_49 ?_
              refine g_iadd dX6_level_50 ?_
              refine g_iload2 dX6_level_51 ?_
              refine g_isub dX6_level_52 ?_
              refine g_iretI rfl dX6_level_53 ?_
              rw [if_pos ⟨by omega, by omega, h42⟩] at hsi
              rw [hin, hsi, if_neg (by omega)] at hst
              exact Fo.ret (by rw [hlv, hst]; exact congrArg iv (by omega)) hM1 he1
        · have hz : lvI s q 3 0 = -1 := by
            rw [hin]
            by_cases e3 : h = 3
            · rw [e3]; rfl
            · exact lvI_neg s q _ h (by omega)
          rw [if_pos hz] at hst
          refine g_iload2 dX6_level_18 ?_
          refine g_iconst dX6_level_19 ?_
          refine g_iload1 dX6_level_20 ?_
          refine g_mmin ⟨by omega, by omega⟩ ⟨by omega, by omega⟩ ma_X6_146 ⟨by decide, Nat.le_of_ble_eq_true rfl⟩ dX6_level_21 ?_
          refine g_icmp_gt ⟨by omega, by omega⟩ ⟨by omega, by omega⟩ (tgt := 60) dX6_level_24 rfl (fun h24 => ?_) (fun h24 => absurd h24 (by omega))
          refine g_iinc1 dX6_level_60 rfl (by decide) ?_
          refine g_goto (tgt := 11) dX6_level_63 rfl ?_
          exact ih (by omega) (by rw [hlv, hst]) _ _ (by omega)
      refine g_iload1 dX6_level_11 ?_
      refine g_iconst dX6_level_12 ?_
      refine g_icmp_gt ⟨by omega, by omega⟩ ⟨by omega, by omega⟩ (tgt := 66) dX6_level_13 rfl (fun h13 => absurd h13 (by omega)) (fun h13 => ?_)
      refine g_iconst dX6_level_16 ?_
      refine g_istore2 dX6_level_17 rfl (by decide) ?_
      exact inner 0 (by decide) rfl _ rfl
    · have e9 : q = 6 := by omega
      subst e9
      refine g_iload1 dX6_level_11 ?_
      refine g_iconst dX6_level_12 ?_
      refine g_icmp_gt ⟨by omega, by omega⟩ ⟨by omega, by omega⟩ (tgt := 66) dX6_level_13 rfl (fun h13 => ?_) (fun h13 => absurd h13 (by omega))
      refine g_iconst dX6_level_66 ?_
      refine g_iretI rfl dX6_level_67 ?_
      exact Fo.ret (by rw [hlv]; rfl) hM1 he1
  exact outer 0 (by decide) rfl _ _ rfl
theorem isChange_m {B : Int} {s : Int → Int} (ho : SOK B s) (hs : σ 93 = s) {r : Nat} (hr : r + 1 ≤ 40) : Fw g zX6_isChange [.ref 92, iv ((r + 1 : Nat) : Int)] σ l (bv ((r + 1 < wN s ∧ wTu s ((r + 1 : Nat) : Int) ≠ -1) ∧ r < wN s ∧ wTu s (r : Int) ≠ -1)) := by
  refine Fn.of [some (.ref 92), some (iv ((r + 1 : Nat) : Int))] rfl (by decide) (Nat.le_of_ble_eq_true rfl) rfl ?_
  refine g_iload1 dX6_isChange_0 ?_
  refine g_if_le ⟨by omega, by omega⟩ (tgt := 26) dX6_isChange_1 rfl (fun h1 => absurd h1 (by omega)) (fun h1 => ?_)
  refine g_aload0 dX6_isChange_4 ?_
  refine g_iload1 dX6_isChange_5 ?_
  refine f_cV1w (isNoted_m ho hs (k := r + 1) hr) rfl (by decide) rfl oY_X6_isNoted oI_X6_isNoted lk_X6_152 rfl dX6_isChange_6 rfl (Or.inl rfl) ?_
  refine g_ifeqB (tgt := 26) dX6_isChange_9 rfl (fun h9 => ?_) (fun h9 => ?_)
  · refine g_iconst dX6_isChange_26 ?_
    refine g_iretB (Or.inl rfl) rfl dX6_isChange_27 ?_
    first
      | exact Fw.ret1 ⟨h9, h19⟩
      | exact Fw.ret0 (fun z => h9 z.1)
      | exact Fw.ret0 (fun z => h19 z.2)
  · refine g_aload0 dX6_isChange_12 ?_
    refine g_iload1 dX6_isChange_13 ?_
    refine g_iconst dX6_isChange_14 ?_
    refine g_isub dX6_isChange_15 ?_
    rw [show ((r + 1 : Nat) : Int) - 1 = (r : Int) from by omega]
    refine f_cV1w (isNoted_m ho hs (k := r) (by omega)) rfl (by decide) rfl oY_X6_isNoted oI_X6_isNoted lk_X6_152 rfl dX6_isChange_16 rfl (Or.inl rfl) ?_
    refine g_ifeqB (tgt := 26) dX6_isChange_19 rfl (fun h19 => ?_) (fun h19 => ?_)
    · refine g_iconst dX6_isChange_26 ?_
      refine g_iretB (Or.inl rfl) rfl dX6_isChange_27 ?_
      first
        | exact Fw.ret1 ⟨h9, h19⟩
        | exact Fw.ret0 (fun z => h9 z.1)
        | exact Fw.ret0 (fun z => h19 z.2)
    · refine g_iconst dX6_isChange_22 ?_
      refine g_goto (tgt := 27) dX6_isChange_23 rfl ?_
      refine g_iretB (Or.inr rfl) rfl dX6_isChange_27 ?_
      first
        | exact Fw.ret1 ⟨h9, h19⟩
        | exact Fw.ret0 (fun z => h9 z.1)
        | exact Fw.ret0 (fun z => h19 z.2)
theorem wWp_iff {B : Int} {s : Int → Int} (ho : SOK B s) (hl : lkP s (wTe s) 0 0) {k : Nat} (hk : k < wN s) : wWp s (k + 1) ≠ -1 ↔ wTu s k ≠ -1 := by
  constructor
  · intro z y
    exact z (by rw [wWp_s, if_pos y])
  · intro z
    exact (wPq_in ho hl hk z).1
theorem hardest_q {B : Int} {s : Int → Int} (ho : SOK B s) (hs : σ 93 = s)  : Fo g zX6_hardest [.ref 92] σ l (iv (if wTot s = -1 then -1 else wHd s)) 0 := by
  have hs0 : up σ 92 6 0 93 = s := (up_n (by decide)).trans hs
  have hM0 : Md σ (up σ 92 6 0) := md_th (Md.refl σ)
  have he0 : up σ 92 6 0 92 6 = 0 := up_eq
  have hp3 := p3_le ho.h7
  have hp0 := p3_pos (wH s)
  have hn40 := ho.n40
  have hnI := ho.nI
  have hH7 := ho.h7
  have hHI := ho.hI
  have hb4 := ho.halves
  have hb5 := ho.crosses
  have hti := wTot_iff ho
  refine Fn.of [some (.ref 92), none, none, none, none] rfl (by decide) (Nat.le_of_ble_eq_true rfl) rfl ?_
  by_cases hk : wLk s (wTe s) 0 0 = -1
  · rw [if_neg (fun z => hti.mp z hk)]
    have hok := (lk_ok (Nat.zero_le _)).mp hk
    refine g_aload0 dX6_hardest_0 ?_
    refine g_iconst dX6_hardest_1 ?_
    refine f_puti (J := 6) rfl (by decide) rfl rfl fl_X6_66 rfl (fun _ _ _ h => by cases h; rfl) dX6_hardest_2 ?_
    refine g_aload0 dX6_hardest_5 ?_
    refine f_cV0q (findsWay_y ho hs0 hk) rfl (by decide) rfl oY_X6_findsWay oI_X6_findsWay lk_X6_339 rfl dX6_hardest_6 (by omega) (by omega) rfl (Or.inl rfl) (fun σ6 l6 h6 => ?_)
    have el1 := h6.1
    subst el1
    have hM1 := hM0.trans h6.2.1
    have he1 : σ6 92 6 = 0 := by rw [h6.2.2.1]; exact he0
    have hL1 := h6.2.2.2.1
    have hs1 := hM1.s hs
    have hw1 := h6.2.2.2.2
    refine g_if_ne ⟨by decide, by decide⟩ (tgt := 14) dX6_hardest_9 rfl (fun h9 => ?_) (fun h9 => absurd h9 (by decide))
    refine g_iconst dX6_hardest_14 ?_
    refine g_istore1 dX6_hardest_15 rfl (by decide) ?_
    refine g_iconst dX6_hardest_16 ?_
    refine g_istore2 dX6_hardest_17 rfl (by decide) ?_
    refine g_iconst dX6_hardest_18 ?_
    refine g_istore3 dX6_hardest_19 rfl (by decide) ?_
    obtain ⟨f, hfd⟩ : ∃ f : Nat → Int, f = (fun k => chg (wCo s) (wWp s k) (wWp s (k + 1))) := ⟨_, rfl⟩
    have hfe : ∀ k, f k = chg (wCo s) (wWp s k) (wWp s (k + 1)) := fun k => by rw [hfd]
    have hf : ∀ k, 0 ≤ f k ∧ f k ≤ 72 := fun k => by rw [hfe]; exact chg_rng ho _ _
    have loop : ∀ q : Nat, q ≤ wN s → ∀ (i be mo : Int) (u4 : Option Value), i = (q : Int) → be = (hmF f q).1 → mo = (hmF f q).2 → FW g zX6_hardest 0 0 (fun o τ l' => o = .inl (some (iv (wHd s))) ∧ l' = l6 ∧ Md σ τ ∧ τ 92 6 = 0) 20 [some (.ref 92), some (iv be), some (iv mo), some (iv i), u4] [] σ6 l6 := by
      refine loopUp _ (fun q hq2 ih i be mo u4 hi hbe hmo => ?_)
      subst hi
      subst hbe
      subst hmo
      have hpr := hmF_rng (f := f) q (fun i _ => by have := hf i; omega)
      have hfq := hf q
      refine g_iload3 dX6_hardest_20 ?_
      refine g_aload0 dX6_hardest_21 ?_
      refine f_getr (r := 93) rfl (by decide) rfl rfl fl_X6_7 dX6_hardest_22 ?_
      try rw [hs1]
      refine g_bipush dX6_hardest_25 (by decide) ?_
      refine f_iald rfl (by decide) ⟨by omega, by show _ < ((67 : Nat) : Int); omega⟩ dX6_hardest_27 ?_
      try rw [hs1]
      rw [hnI]
      refine g_icmp_ge ⟨by omega, by omega⟩ ⟨by omega, by omega⟩ (tgt := 55) dX6_hardest_28 rfl (fun h28 => ?_) (fun h28 => ?_)
      · refine g_iload1 dX6_hardest_55 ?_
        refine g_iretI rfl dX6_hardest_56 ?_
        have e9 : q = wN s := by omega
        subst e9
        exact Fo.ret (by unfold wHd; rw [← hfd]) hM1 he1
      · refine g_aload0 dX6_hardest_31 ?_
        refine g_iload3 dX6_hardest_32 ?_
        refine f_cV1w (changeTo_m ho hs1 hw1 (by omega)) rfl (by decide) rfl oY_X6_changeTo oI_X6_changeTo lk_X6_342 rfl dX6_hardest_33 rfl (Or.inl rfl) ?_
        rw [← hfe q]
        refine g_istore4 dX6_hardest_36 rfl (by decide) ?_
        refine g_iload4 dX6_hardest_38 ?_
        refine g_iload2 dX6_hardest_40 ?_
        refine g_icmp_le ⟨by omega, by omega⟩ ⟨by omega, by omega⟩ (tgt := 49) dX6_hardest_41 rfl (fun h41 => ?_) (fun h41 => ?_)
        · refine g_iinc3 dX6_hardest_49 rfl (by decide) ?_
          refine g_goto (tgt := 20) dX6_hardest_52 rfl ?_
          first
            | exact ih (by omega) _ _ _ _ (by omega) (by rw [hmF, if_neg (by omega)]) (by rw [hmF, if_neg (by omega)])
            | exact ih (by omega) _ _ _ _ (by omega) (by rw [hmF, if_pos (by omega)]) (by rw [hmF, if_pos (by omega)])
        · refine g_iload3 dX6_hardest_44 ?_
          refine g_istore1 dX6_hardest_45 rfl (by decide) ?_
          refine g_iload4 dX6_hardest_46 ?_
          refine g_istore2 dX6_hardest_48 rfl (by decide) ?_
          refine g_iinc3 dX6_hardest_49 rfl (by decide) ?_
          refine g_goto (tgt := 20) dX6_hardest_52 rfl ?_
          first
            | exact ih (by omega) _ _ _ _ (by omega) (by rw [hmF, if_neg (by omega)]) (by rw [hmF, if_neg (by omega)])
            | exact ih (by omega) _ _ _ _ (by omega) (by rw [hmF, if_pos (by omega)]) (by rw [hmF, if_pos (by omega)])
    exact loop 0 (Nat.zero_le _) _ _ _ _ rfl rfl rfl
  · rw [if_pos (hti.mpr hk)]
    refine g_aload0 dX6_hardest_0 ?_
    refine g_iconst dX6_hardest_1 ?_
    refine f_puti (J := 6) rfl (by decide) rfl rfl fl_X6_66 rfl (fun _ _ _ h => by cases h; rfl) dX6_hardest_2 ?_
    refine g_aload0 dX6_hardest_5 ?_
    refine f_cV0q (findsWay_n ho hs0 hk) rfl (by decide) rfl oY_X6_findsWay oI_X6_findsWay lk_X6_339 rfl dX6_hardest_6 (by omega) (by omega) rfl (Or.inl rfl) (fun σ6 l6 h6 => ?_)
    have el1 := h6.1
    subst el1
    have hM1 := hM0.trans h6.2.1
    have he1 : σ6 92 6 = 0 := by rw [h6.2.2.1]; exact he0
    have hL1 := h6.2.2.2.1
    have hs1 := hM1.s hs
    refine g_if_ne ⟨by decide, by decide⟩ (tgt := 14) dX6_hardest_9 rfl (fun h9 => absurd h9 (by decide)) (fun h9 => ?_)
    refine g_iconst dX6_hardest_12 ?_
    refine g_iretI rfl dX6_hardest_13 ?_
    exact Fo.ret rfl hM1 he1
theorem dgt_r (p : Int) (k : Nat) : 0 ≤ dgt p k ∧ dgt p k ≤ 2 := by
  unfold dgt
  omega
theorem moved_q {B : Int} {s : Int → Int} (ho : SOK B s) (hs : σ 93 = s) {h : Nat} (hh : h < wH s) : Fo g zX6_moved [.ref 92, iv (h : Int)] σ l (iv (if wTot s = -1 then -1 else wMv s h (wN s))) 0 := by
  have hs0 : up σ 92 6 0 93 = s := (up_n (by decide)).trans hs
  have hM0 : Md σ (up σ 92 6 0) := md_th (Md.refl σ)
  have he0 : up σ 92 6 0 92 6 = 0 := up_eq
  have hp3 := p3_le ho.h7
  have hp0 := p3_pos (wH s)
  have hn40 := ho.n40
  have hnI := ho.nI
  have hH7 := ho.h7
  have hHI := ho.hI
  have hb4 := ho.halves
  have hb5 := ho.crosses
  have hti := wTot_iff ho
  have h3 := isHole_ok (g := g) (l := l) ho hs (x := (h : Int)) (by omega)
  rw [bvT (by omega)] at h3
  refine Fn.of [some (.ref 92), some (iv (h : Int)), none, none] rfl (by decide) (Nat.le_of_ble_eq_true rfl) rfl ?_
  by_cases hk : wLk s (wTe s) 0 0 = -1
  · rw [if_neg (fun z => hti.mp z hk)]
    have hok := (lk_ok (Nat.zero_le _)).mp hk
    refine g_aload0 dX6_moved_0 ?_
    refine g_aload0 dX6_moved_1 ?_
    refine g_iload1 dX6_moved_2 ?_
    refine f_cV1w (h3) rfl (by decide) rfl oY_X6_isHole oI_X6_isHole lk_X6_292 rfl dX6_moved_3 rfl (Or.inl rfl) ?_
    refine g_iconst dX6_moved_6 ?_
    refine f_cV2x (passes_11) rfl (by decide) rfl oY_X6_passes oI_X6_passes lk_X6_285 rfl dX6_moved_7 rfl (Or.inl rfl) ?_
    refine g_if_ne ⟨by decide, by decide⟩ (tgt := 15) dX6_moved_10 rfl (fun h10 => ?_) (fun h10 => absurd h10 (by decide))
    refine g_aload0 dX6_moved_15 ?_
    refine f_cV0q (findsWay_y ho hs0 hk) rfl (by decide) rfl oY_X6_findsWay oI_X6_findsWay lk_X6_339 rfl dX6_moved_16 (by omega) (by omega) rfl (Or.inl rfl) (fun σ16 l16 h16 => ?_)
    have el1 := h16.1
    subst el1
    have hM1 := hM0.trans h16.2.1
    have he1 : σ16 92 6 = 0 := by rw [h16.2.2.1]; exact he0
    have hL1 := h16.2.2.2.1
    have hs1 := hM1.s hs
    have hw1 := h16.2.2.2.2
    refine g_if_ne ⟨by decide, by decide⟩ (tgt := 24) dX6_moved_19 rfl (fun h19 => ?_) (fun h19 => absurd h19 (by decide))
    refine g_iconst dX6_moved_24 ?_
    refine g_istore2 dX6_moved_25 rfl (by decide) ?_
    refine g_iconst dX6_moved_26 ?_
    refine g_istore3 dX6_moved_27 rfl (by decide) ?_
    have loop : ∀ r : Nat, r ≤ wN s - 1 → ∀ (i x : Int), i = ((r + 1 : Nat) : Int) → x = wMv s h (r + 1) → FW g zX6_moved 0 0 (fun o τ l' => o = .inl (some (iv (wMv s h (wN s)))) ∧ l' = l16 ∧ Md σ τ ∧ τ 92 6 = 0) 28 [some (.ref 92), some (iv (h : Int)), some (iv x), some (iv i)] [] σ16 l16 := by
      refine loopUp _ (fun r hr2 ih i x hi hx => ?_)
      subst hi
      refine g_iload3 dX6_moved_28 ?_
      refine g_aload0 dX6_moved_29 ?_
      refine f_getr (r := 93) rfl (by decide) rfl rfl fl_X6_7 dX6_moved_30 ?_
      try rw [hs1]
      refine g_bipush dX6_moved_33 (by decide) ?_
      refine f_iald rfl (by decide) ⟨by omega, by show _ < ((67 : Nat) : Int); omega⟩ dX6_moved_35 ?_
      try rw [hs1]
      rw [hnI]
      refine g_icmp_ge ⟨by omega, by omega⟩ ⟨by omega, by omega⟩ (tgt := 88) dX6_moved_36 rfl (fun h36 => ?_) (fun h36 => ?_)
      · refine g_iload2 dX6_moved_88 ?_
        refine g_iretI rfl dX6_moved_89 ?_
        refine Fo.ret ?_ hM1 he1
        rw [hx]
        by_cases c0 : r + 1 ≤ wN s
        · rw [show r + 1 = wN s from by omega]
        · rw [show wN s = 0 from by omega, show r = 0 from by omega]
          rfl
      · refine g_iload2 dX6_moved_39 ?_
        refine g_aload0 dX6_moved_40 ?_
        refine g_iload3 dX6_moved_41 ?_
        refine f_cV1w (isChange_m ho hs1 (r := r) (by omega)) rfl (by decide) rfl oY_X6_isChange oI_X6_isChange lk_X6_345 rfl dX6_moved_42 rfl (Or.inl rfl) ?_
        refine g_ifeqB (tgt := 79) dX6_moved_45 rfl (fun h45 => ?_) (fun h45 => ?_)
        · refine g_iconst dX6_moved_79 ?_
          refine g_iadd dX6_moved_80 ?_
          refine g_istore2 dX6_moved_81 rfl (by decide) ?_
          refine g_iinc3 dX6_moved_82 rfl (by decide) ?_
          refine g_goto (tgt := 28) dX6_moved_85 rfl ?_
          first
            | (have y := fun (w : wWp s (r + 1) ≠ -1) (w2 : wWp s (r + 1 + 1) ≠ -1) => h45 ⟨⟨by omega, (wWp_iff ho hok (by omega)).mp w2⟩, by omega, (wWp_iff ho hok (by omega)).mp w⟩
               exact ih (by omega) _ _ (by omega) (by rw [hx, wMv_s s h (r + 1), if_neg (fun w => y w.1 w.2.1)]))
            | (have y := h72
               exact ih (by omega) _ _ (by omega) (by rw [hx, wMv_s s h (r + 1), if_neg (fun w => w.2.2 (by omega))]))
            | (have y := h72
               exact ih (by omega) _ _ (by omega) (by rw [hx, wMv_s s h (r + 1), if_pos ⟨q1, q2, fun w => by omega⟩]))
        · have q1 := (wWp_iff ho hok h45.2.1).mpr h45.2.2
          have q2 := (wWp_iff ho hok h45.1.1).mpr h45.1.2
          have r1 := wWp_rng ho (r + 1)
          have r2 := wWp_rng ho (r + 1 + 1)
          have d1 := dgt_r (wWp s (r + 1)) h
          have d2 := dgt_r (wWp s (r + 1 + 1)) h
          refine g_aload0 dX6_moved_48 ?_
          refine g_aload0 dX6_moved_49 ?_
          refine f_getr (r := 104) rfl (by decide) rfl rfl fl_X6_46 dX6_moved_50 ?_
          try rw [hs1]
          refine g_iload3 dX6_moved_53 ?_
          refine f_iald rfl (by decide) ⟨by omega, by show _ < ((40 : Nat) : Int); omega⟩ dX6_moved_54 ?_
          try rw [hs1]
          rw [hw1 (r + 1) h45.1.1]
          refine g_iload1 dX6_moved_55 ?_
          refine f_cV2w (cover_m (k := h) ⟨by omega, by omega⟩ (by omega)) rfl (by decide) rfl oY_X6_coverOf oI_X6_coverOf lk_X6_90 rfl dX6_moved_56 rfl (Or.inl rfl) ?_
          refine g_aload0 dX6_moved_59 ?_
          refine g_aload0 dX6_moved_60 ?_
          refine f_getr (r := 104) rfl (by decide) rfl rfl fl_X6_46 dX6_moved_61 ?_
          try rw [hs1]
          refine g_iload3 dX6_moved_64 ?_
          refine g_iconst dX6_moved_65 ?_
          refine g_isub dX6_moved_66 ?_
          refine f_iald rfl (by decide) ⟨by omega, by show _ < ((40 : Nat) : Int); omega⟩ dX6_moved_67 ?_
          try rw [hs1]
          rw [show ((r + 1 : Nat) : Int) - 1 = (r : Int) from by omega, hw1 r h45.2.1]
          refine g_iload1 dX6_moved_68 ?_
          refine f_cV2w (cover_m (k := h) ⟨by omega, by omega⟩ (by omega)) rfl (by decide) rfl oY_X6_coverOf oI_X6_coverOf lk_X6_90 rfl dX6_moved_69 rfl (Or.inl rfl) ?_
          refine g_icmp_eq ⟨by omega, by omega⟩ ⟨by omega, by omega⟩ (tgt := 79) dX6_moved_72 rfl (fun h72 => ?_) (fun h72 => ?_)
          · refine g_iconst dX6_moved_79 ?_
            refine g_iadd dX6_moved_80 ?_
            refine g_istore2 dX6_moved_81 rfl (by decide) ?_
            refine g_iinc3 dX6_moved_82 rfl (by decide) ?_
            refine g_goto (tgt := 28) dX6_moved_85 rfl ?_
            first
              | (have y := fun (w : wWp s (r + 1) ≠ -1) (w2 : wWp s (r + 1 + 1) ≠ -1) => h45 ⟨⟨by omega, (wWp_iff ho hok (by omega)).mp w2⟩, by omega, (wWp_iff ho hok (by omega)).mp w⟩
                 exact ih (by omega) _ _ (by omega) (by rw [hx, wMv_s s h (r + 1), if_neg (fun w => y w.1 w.2.1)]))
              | (have y := h72
                 exact ih (by omega) _ _ (by omega) (by rw [hx, wMv_s s h (r + 1), if_neg (fun w => w.2.2 (by omega))]))
              | (have y := h72
                 exact ih (by omega) _ _ (by omega) (by rw [hx, wMv_s s h (r + 1), if_pos ⟨q1, q2, fun w => by omega⟩]))
          · refine g_iconst dX6_moved_75 ?_
            refine g_goto (tgt := 80) dX6_moved_76 rfl ?_
            refine g_iadd dX6_moved_80 ?_
            refine g_istore2 dX6_moved_81 rfl (by decide) ?_
            refine g_iinc3 dX6_moved_82 rfl (by decide) ?_
            refine g_goto (tgt := 28) dX6_moved_85 rfl ?_
            first
              | (have y := fun (w : wWp s (r + 1) ≠ -1) (w2 : wWp s (r + 1 + 1) ≠ -1) => h45 ⟨⟨by omega, (wWp_iff ho hok (by omega)).mp w2⟩, by omega, (wWp_iff ho hok (by omega)).mp w⟩
                 exact ih (by omega) _ _ (by omega) (by rw [hx, wMv_s s h (r + 1), if_neg (fun w => y w.1 w.2.1)]))
              | (have y := h72
                 exact ih (by omega) _ _ (by omega) (by rw [hx, wMv_s s h (r + 1), if_neg (fun w => w.2.2 (by omega))]))
              | (have y := h72
                 exact ih (by omega) _ _ (by omega) (by rw [hx, wMv_s s h (r + 1), if_pos ⟨q1, q2, fun w => by omega⟩]))
    exact loop 0 (Nat.zero_le _) _ _ rfl rfl
  · rw [if_pos (hti.mpr hk)]
    refine g_aload0 dX6_moved_0 ?_
    refine g_aload0 dX6_moved_1 ?_
    refine g_iload1 dX6_moved_2 ?_
    refine f_cV1w (h3) rfl (by decide) rfl oY_X6_isHole oI_X6_isHole lk_X6_292 rfl dX6_moved_3 rfl (Or.inl rfl) ?_
    refine g_iconst dX6_moved_6 ?_
    refine f_cV2x (passes_11) rfl (by decide) rfl oY_X6_passes oI_X6_passes lk_X6_285 rfl dX6_moved_7 rfl (Or.inl rfl) ?_
    refine g_if_ne ⟨by decide, by decide⟩ (tgt := 15) dX6_moved_10 rfl (fun h10 => ?_) (fun h10 => absurd h10 (by decide))
    refine g_aload0 dX6_moved_15 ?_
    refine f_cV0q (findsWay_n ho hs0 hk) rfl (by decide) rfl oY_X6_findsWay oI_X6_findsWay lk_X6_339 rfl dX6_moved_16 (by omega) (by omega) rfl (Or.inl rfl) (fun σ16 l16 h16 => ?_)
    have el1 := h16.1
    subst el1
    have hM1 := hM0.trans h16.2.1
    have he1 : σ16 92 6 = 0 := by rw [h16.2.2.1]; exact he0
    have hL1 := h16.2.2.2.1
    have hs1 := hM1.s hs
    refine g_if_ne ⟨by decide, by decide⟩ (tgt := 24) dX6_moved_19 rfl (fun h19 => absurd h19 (by decide)) (fun h19 => ?_)
    refine g_iconst dX6_moved_22 ?_
    refine g_iretI rfl dX6_moved_23 ?_
    exact Fo.ret rfl hM1 he1
theorem moved_r {B : Int} {s : Int → Int} (ho : SOK B s) (hs : σ 93 = s) {x : Int} (hx : R32 x) (h : ¬ (0 ≤ x ∧ x < s 3)) : Fo g zX6_moved [.ref 92, iv x] σ l (iv 0) 1 := by
  have hs0 : up σ 92 6 0 93 = s := (up_n (by decide)).trans hs
  have hM0 : Md σ (up σ 92 6 0) := md_th (Md.refl σ)
  have he0 : up σ 92 6 0 92 6 = 0 := up_eq
  have hp3 := p3_le ho.h7
  have hp0 := p3_pos (wH s)
  have hn40 := ho.n40
  have hnI := ho.nI
  have hH7 := ho.h7
  have hHI := ho.hI
  have hb4 := ho.halves
  have hb5 := ho.crosses
  have h3 := isHole_ok (g := g) (l := l) ho hs (x := x) hx
  rw [bvF h] at h3
  refine Fn.of [some (.ref 92), some (iv x), none, none] rfl (by decide) (Nat.le_of_ble_eq_true rfl) rfl ?_
  refine g_aload0 dX6_moved_0 ?_
  refine g_aload0 dX6_moved_1 ?_
  refine g_iload1 dX6_moved_2 ?_
  refine f_cV1w (h3) rfl (by decide) rfl oY_X6_isHole oI_X6_isHole lk_X6_292 rfl dX6_moved_3 rfl (Or.inl rfl) ?_
  refine g_iconst dX6_moved_6 ?_
  refine f_cV2x (passes_01) rfl (by decide) rfl oY_X6_passes oI_X6_passes lk_X6_285 rfl dX6_moved_7 rfl (Or.inl rfl) ?_
  refine g_if_ne ⟨by decide, by decide⟩ (tgt := 15) dX6_moved_10 rfl (fun h10 => absurd h10 (by decide)) (fun h10 => ?_)
  refine g_iconst dX6_moved_13 ?_
  refine g_iretI rfl dX6_moved_14 ?_
  exact Fo.ret rfl (md_th (Md.refl σ)) up_eq
end C76
