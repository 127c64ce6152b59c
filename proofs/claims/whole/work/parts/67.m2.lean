/-! The model: tones of all plays -/
section C67
variable {g : gT} {σ : sT} {l : Nat → Nat}
theorem stp_mono {w w2 : Int} (h : w ≤ w2) : ∀ k, stp w k ≤ stp w2 k := by
  intro k
  induction k with
  | zero => show 1000 * w ≤ 1000 * w2; omega
  | succ k ih => show stp w k * 94387 / 100000 ≤ stp w2 k * 94387 / 100000; omega
theorem stp_low : ∀ k : Fin 50, 1000 ≤ stp 2000 k.val := by decide +kernel
theorem stp_gap {w : Int} (hw : 2000 ≤ w) {k : Nat} (hk : k < 49) : stp w (k + 1) < stp w k := by
  have h1 := stp_low ⟨k, by omega⟩
  have h2 := stp_mono hw k
  show stp w k * 94387 / 100000 < stp w k
  dsimp only at h1
  omega
theorem laysSteps_m {B : Int} {s : Int → Int} (ho : SOK B s) (hs : σ 93 = s) : Fn g zX6_laysSteps 0 0 [.ref 92] σ l (fun o τ l' => o = .inl none ∧ l' = l ∧ (∀ a, a ≠ 98 → τ a = σ a) ∧ ∀ k, 0 ≤ k → k < 49 → τ 98 k = stI (10 * s 0 + 6 * s 1) k) := by
  have hlen := ho.len
  have hbo := ho.bore
  refine Fn.of [some (.ref 92), none] rfl (by decide) (Nat.le_of_ble_eq_true rfl) rfl ?_
  have loop : ∀ q : Nat, q ≤ 48 → ∀ (i : Int) (τ : sT), i = ((q + 1 : Nat) : Int) → (∀ a, a ≠ 98 → τ a = σ a) → (∀ k, 0 ≤ k → k < ((q + 1 : Nat) : Int) → τ 98 k = stI (10 * s 0 + 6 * s 1) k) → FW g zX6_laysSteps 0 0 (fun o τ l' => o = .inl none ∧ l' = l ∧ (∀ a, a ≠ 98 → τ a = σ a) ∧ ∀ k, 0 ≤ k → k < 49 → τ 98 k = stI (10 * s 0 + 6 * s 1) k) 17 [some (.ref 92), some (iv i)] [] τ l := by
    refine loopUp _ (fun q hq2 ih i τ hi hf hv => ?_)
    subst hi
    refine g_iload1 dX6_laysSteps_17 ?_
    refine g_bipush dX6_laysSteps_18 (by decide) ?_
    refine g_icmp_ge ⟨by omega, by omega⟩ ⟨by decide, by decide⟩ (tgt := 51) dX6_laysSteps_20 rfl (fun h20 => ?_) (fun h20 => ?_)
    · refine g_return rfl dX6_laysSteps_51 ?_
      exact fn_ret ⟨rfl, rfl, hf, fun k k0 k1 => hv k k0 (by omega)⟩
    · refine g_aload0 dX6_laysSteps_23 ?_
      refine f_getr (r := 98) rfl (by decide) rfl rfl fl_X6_26 dX6_laysSteps_24 ?_
      refine g_iload1 dX6_laysSteps_27 ?_
      refine g_aload0 dX6_laysSteps_28 ?_
      refine f_getr (r := 98) rfl (by decide) rfl rfl fl_X6_26 dX6_laysSteps_29 ?_
      refine g_iload1 dX6_laysSteps_32 ?_
      refine g_iconst dX6_laysSteps_33 ?_
      refine g_isub dX6_laysSteps_34 ?_
      refine f_lald rfl (by decide) ⟨by omega, by show _ < ((49 : Nat) : Int); omega⟩ dX6_laysSteps_35 ?_
      rw [hv _ (by omega) (by omega), show ((q + 1 : Nat) : Int) - 1 = (q : Int) from by omega, stI_nat]
      have hst := stp_rng (w := (10 * s 0 + 6 * s 1)) (by omega) q
      refine g_ldc2 (v := Int64.ofInt (94387)) kl_X6_103 dX6_laysSteps_36 ?_
      refine g_lmul dX6_laysSteps_39 ?_
      refine g_ldc2 (v := Int64.ofInt (100000)) kl_X6_105 dX6_laysSteps_40 ?_
      refine g_ldiv ⟨by omega, by omega⟩ ⟨by decide, by decide⟩ dX6_laysSteps_43 ?_
      refine f_last rfl (by decide) ⟨by omega, by show _ < ((49 : Nat) : Int); omega⟩ dX6_laysSteps_44 ?_
      refine g_iinc1 dX6_laysSteps_45 rfl (by decide) ?_
      refine g_goto (tgt := 17) dX6_laysSteps_48 rfl ?_
      refine ih (by omega) _ _ (by push_cast; omega) (fun a ha => by rw [up_n ha]; exact hf a ha) (fun k k0 k1 => ?_)
      by_cases c : k = ((q + 1 : Nat) : Int)
      · rw [c, up_eq, stI_nat]; rfl
      · rw [up_ne (fun z => c z.2)]; exact hv k k0 (by omega)
  refine g_aload0 dX6_laysSteps_0 ?_
  refine f_getr (r := 98) rfl (by decide) rfl rfl fl_X6_26 dX6_laysSteps_1 ?_
  refine g_iconst dX6_laysSteps_4 ?_
  refine g_ldc2 (v := Int64.ofInt (1000)) kl_X6_101 dX6_laysSteps_5 ?_
  refine g_aload0 dX6_laysSteps_8 ?_
  refine f_cV0w (whole_ok hs) rfl (by decide) rfl oY_X6_whole oI_X6_whole lk_X6_87 rfl dX6_laysSteps_9 rfl (Or.inl rfl) ?_
  refine g_i2l ⟨by omega, by omega⟩ dX6_laysSteps_12 ?_
  refine g_lmul dX6_laysSteps_13 ?_
  refine f_last rfl (by decide) ⟨by omega, by show _ < ((49 : Nat) : Int); omega⟩ dX6_laysSteps_14 ?_
  refine g_iconst dX6_laysSteps_15 ?_
  refine g_istore1 dX6_laysSteps_16 rfl (by decide) ?_
  exact loop 0 (Nat.zero_le _) _ _ rfl (fun a ha => up_n ha) (fun k k0 k1 => by
    rw [show k = 0 from by omega, up_eq]; rfl)
theorem cents_m {B : Int} {s : Int → Int} (ho : SOK B s) (hs : σ 93 = s) {T : Int → Int} (hT : σ 98 = T) (hTI : ∀ k, 0 ≤ k → k < 49 → T k = stI (10 * s 0 + 6 * s 1) k) {p : Int} (hp : 0 ≤ p ∧ p < 2 * ((3 ^ wH s : Nat) : Int)) : Fw g zX6_centsOf [.ref 92, iv p] σ l (iv (wCn s p)) := by
  have hlen := ho.len
  have hbo := ho.bore
  have hp3 := p3_le ho.h7
  have hwl : 0 ≤ wLen s (fgF ((3 ^ wH s : Nat) : Int) p) ∧ wLen s (fgF ((3 ^ wH s : Nat) : Int) p) ≤ (10 * s 0 + 6 * s 1) := by unfold wLen; exact Lq_rng (w := (10 * s 0 + 6 * s 1)) ho.okB (by omega) _ (Nat.le_refl _) _
  obtain ⟨W, hW⟩ : ∃ W, W = wLen s (fgF ((3 ^ wH s : Nat) : Int) p) := ⟨_, rfl⟩
  rw [← hW] at hwl
  have hTn : ∀ k : Nat, k < 49 → T k = stp (10 * s 0 + 6 * s 1) k := fun k hk => by rw [hTI k (by omega) (by omega), stI_nat]
  have hT0 : ∀ k : Nat, k < 49 → 0 ≤ T k ∧ T k ≤ 10000000 := fun k hk => by
    have := stp_rng (w := (10 * s 0 + 6 * s 1)) (by omega) k
    rw [hTn k hk]; omega
  have hTg : ∀ k : Nat, k < 48 → T ((k : Int) + 1) < T k := fun k hk => by
    have := stp_gap (w := (10 * s 0 + 6 * s 1)) (by omega) (k := k) (by omega)
    rw [hTn k (by omega), show (k : Int) + 1 = ((k + 1 : Nat) : Int) from by push_cast; rfl, hTn (k + 1) (by omega)]
    exact this
  have hpit : wCen s (fgF ((3 ^ wH s : Nat) : Int) p) = pit T W := by
    unfold wCen
    rw [← hW]
    exact (pit_congr (fun j j0 j1 => (hTI j j0 j1).symm) _)
  refine Fn.of [some (.ref 92), some (iv p), none, none, none, none, none] rfl (by decide) (Nat.le_of_ble_eq_true rfl) rfl ?_
  have fin : ∀ q : Nat, q = nd T (1000 * W) 47 0 → ∀ (u5 : Option Value), FW g zX6_centsOf 0 0 (fun q σ' l' => q = .inl (some (iv (wCn s p))) ∧ σ' = σ ∧ l' = l) 41 [some (.ref 92), some (iv p), some (lg (1000 * W)), none, some (iv (q : Int)), u5, none] [] σ l := by
    intro q hq u5
    have hq47 := nd_le T (1000 * W) 47 0
    have hge := nd_ge T (1000 * W) 47 0 (by have := hTn 0 (by omega); rw [show T ((0 : Nat) : Int) = stp (10 * s 0 + 6 * s 1) 0 from this]; show 1000 * W ≤ 1000 * (10 * s 0 + 6 * s 1); omega)
    rw [← hq] at hq47 hge
    have g1 := hTg q (by omega)
    have g2 := hT0 q (by omega)
    have g3 := hT0 (q + 1) (by omega)
    rw [show ((q + 1 : Nat) : Int) = (q : Int) + 1 from by push_cast; rfl] at g3
    have hdv : 0 ≤ 100 * (T q - 1000 * W) / (T q - T ((q : Int) + 1)) ∧ 100 * (T q - 1000 * W) / (T q - T ((q : Int) + 1)) ≤ 100 * (T q - 1000 * W) := ⟨Int.ediv_nonneg (by omega) (by omega), Int.ediv_le_self _ (by omega)⟩
    have hpv : pit T W = min (100 * (q : Int) + 100 * (T q - 1000 * W) / (T q - T ((q : Int) + 1))) 4800 := by
      unfold pit
      rw [← hq, quoF_pos (by omega)]
    refine g_ldc2 (v := Int64.ofInt (100)) kl_X6_110 dX6_centsOf_41 ?_
    refine g_iload4 dX6_centsOf_44 ?_
    refine g_i2l ⟨by omega, by omega⟩ dX6_centsOf_46 ?_
    refine g_lmul dX6_centsOf_47 ?_
    refine g_ldc2 (v := Int64.ofInt (100)) kl_X6_110 dX6_centsOf_48 ?_
    refine g_aload0 dX6_centsOf_51 ?_
    refine f_getr (r := 98) rfl (by decide) rfl rfl fl_X6_26 dX6_centsOf_52 ?_
    try rw [hT]
    refine g_iload4 dX6_centsOf_55 ?_
    refine f_lald rfl (by decide) ⟨by omega, by show _ < ((49 : Nat) : Int); omega⟩ dX6_centsOf_57 ?_
    try rw [hT]
    refine g_lload2 dX6_centsOf_58 ?_
    refine g_lsub dX6_centsOf_59 ?_
    refine g_lmul dX6_centsOf_60 ?_
    refine g_aload0 dX6_centsOf_61 ?_
    refine f_getr (r := 98) rfl (by decide) rfl rfl fl_X6_26 dX6_centsOf_62 ?_
    try rw [hT]
    refine g_iload4 dX6_centsOf_65 ?_
    refine f_lald rfl (by decide) ⟨by omega, by show _ < ((49 : Nat) : Int); omega⟩ dX6_centsOf_67 ?_
    try rw [hT]
    refine g_aload0 dX6_centsOf_68 ?_
    refine f_getr (r := 98) rfl (by decide) rfl rfl fl_X6_26 dX6_centsOf_69 ?_
    try rw [hT]
    refine g_iload4 dX6_centsOf_72 ?_
    refine g_iconst dX6_centsOf_74 ?_
    refine g_iadd dX6_centsOf_75 ?_
    refine f_lald rfl (by decide) ⟨by omega, by show _ < ((49 : Nat) : Int); omega⟩ dX6_centsOf_76 ?_
    try rw [hT]
    refine g_lsub dX6_centsOf_77 ?_
    refine g_ldiv ⟨by omega, by omega⟩ ⟨by omega, by omega⟩ dX6_centsOf_78 ?_
    refine g_ladd dX6_centsOf_79 ?_
    refine g_lstore5 dX6_centsOf_80 rfl (by decide) ?_
    refine g_ldc2 (v := Int64.ofInt (4800)) kl_X6_112 dX6_centsOf_82 ?_
    refine g_lload5 dX6_centsOf_85 ?_
    refine g_lmin ⟨by decide, by decide⟩ ⟨by omega, by omega⟩ ma_X6_114 ⟨by decide, Nat.le_of_ble_eq_true rfl⟩ dX6_centsOf_87 ?_
    refine g_l2i dX6_centsOf_90 ?_
    refine g_aload0 dX6_centsOf_91 ?_
    refine g_iload1 dX6_centsOf_92 ?_
    refine f_cV1w (isStrong_ok ho hs ⟨by omega, by omega⟩) rfl (by decide) rfl oY_X6_isStrong oI_X6_isStrong lk_X6_120 rfl dX6_centsOf_93 rfl (Or.inl rfl) ?_
    refine g_ifeqB (tgt := 105) dX6_centsOf_96 rfl (fun h96 => ?_) (fun h96 => ?_)
    · refine g_iconst dX6_centsOf_105 ?_
      refine g_iadd dX6_centsOf_106 ?_
      refine g_iretI rfl dX6_centsOf_107 ?_
      first
        | exact Fw.ret (by unfold wCn; rw [hpit, hpv, if_neg (by omega), Int.min_comm])
        | exact Fw.ret (by unfold wCn; rw [hpit, hpv, if_pos (by omega), Int.min_comm])
    · refine g_sipush dX6_centsOf_99 (by decide) ?_
      refine g_goto (tgt := 106) dX6_centsOf_102 rfl ?_
      refine g_iadd dX6_centsOf_106 ?_
      refine g_iretI rfl dX6_centsOf_107 ?_
      first
        | exact Fw.ret (by unfold wCn; rw [hpit, hpv, if_neg (by omega), Int.min_comm])
        | exact Fw.ret (by unfold wCn; rw [hpit, hpv, if_pos (by omega), Int.min_comm])
  have loop : ∀ q : Nat, q ≤ 47 → nd T (1000 * W) (47 - q) q = nd T (1000 * W) 47 0 → ∀ (i : Int) (u5 : Option Value), i = (q : Int) → FW g zX6_centsOf 0 0 (fun q σ' l' => q = .inl (some (iv (wCn s p))) ∧ σ' = σ ∧ l' = l) 14 [some (.ref 92), some (iv p), some (lg (1000 * W)), none, some (iv i), u5, none] [] σ l := by
    refine loopUp _ (fun q hq2 ih hnd i u5 hi => ?_)
    subst hi
    have g3 : q < 47 → 0 ≤ T ((q : Int) + 1) ∧ T ((q : Int) + 1) ≤ 10000000 := fun hq => by
      have := hT0 (q + 1) (by omega)
      rw [show ((q + 1 : Nat) : Int) = (q : Int) + 1 from by push_cast; rfl] at this
      exact this
    refine g_iload4 dX6_centsOf_14 ?_
    refine g_bipush dX6_centsOf_16 (by decide) ?_
    refine g_icmp_ge ⟨by omega, by omega⟩ ⟨by decide, by decide⟩ (tgt := 41) dX6_centsOf_18 rfl (fun h18 => ?_) (fun h18 => ?_)
    · first
        | exact fin q (by rw [← hnd, show 47 - q = 0 from by omega]; rfl) _
        | exact fin q (by rw [← hnd, show 47 - q = (47 - (q + 1)) + 1 from by omega, nd, if_neg (by omega)]) _
    · refine g_aload0 dX6_centsOf_21 ?_
      refine f_getr (r := 98) rfl (by decide) rfl rfl fl_X6_26 dX6_centsOf_22 ?_
      try rw [hT]
      refine g_iload4 dX6_centsOf_25 ?_
      refine g_iconst dX6_centsOf_27 ?_
      refine g_iadd dX6_centsOf_28 ?_
      refine f_lald rfl (by decide) ⟨by omega, by show _ < ((49 : Nat) : Int); omega⟩ dX6_centsOf_29 ?_
      try rw [hT]
      refine g_lload2 dX6_centsOf_30 ?_
      refine g_lcmp ⟨by have := g3 (by omega); omega, by have := g3 (by omega); omega⟩ ⟨by omega, by omega⟩ dX6_centsOf_31 ?_
      refine g_if_lt_sg (tgt := 41) dX6_centsOf_32 rfl (fun h32 => ?_) (fun h32 => ?_)
      · first
          | exact fin q (by rw [← hnd, show 47 - q = 0 from by omega]; rfl) _
          | exact fin q (by rw [← hnd, show 47 - q = (47 - (q + 1)) + 1 from by omega, nd, if_neg (by omega)]) _
      · refine g_iinc4 dX6_centsOf_35 rfl (by decide) ?_
        refine g_goto (tgt := 14) dX6_centsOf_38 rfl ?_
        refine ih (by omega) ?_ _ _ (by push_cast; omega)
        rw [← hnd]
        conv => rhs; rw [show 47 - q = (47 - (q + 1)) + 1 from by omega, nd, if_pos (by omega)]
  refine g_ldc2 (v := Int64.ofInt (1000)) kl_X6_101 dX6_centsOf_0 ?_
  refine g_aload0 dX6_centsOf_3 ?_
  refine g_iload1 dX6_centsOf_4 ?_
  refine f_cV1w (sounding_m ho hs hp) rfl (by decide) rfl oY_X6_soundingOf oI_X6_soundingOf lk_X6_107 rfl dX6_centsOf_5 rfl (Or.inl rfl) ?_
  rw [← hW]
  refine g_i2l ⟨by omega, by omega⟩ dX6_centsOf_8 ?_
  refine g_lmul dX6_centsOf_9 ?_
  refine g_lstore2 dX6_centsOf_10 rfl (by decide) ?_
  refine g_iconst dX6_centsOf_11 ?_
  refine g_istore4 dX6_centsOf_12 rfl (by decide) ?_
  exact loop 0 (Nat.zero_le _) rfl _ _ rfl
theorem tonF_eq {x t : Int} : tonF x t = if (x + 50) / 100 < 25 ∧ -t ≤ x - 100 * ((x + 50) / 100) ∧ x - 100 * ((x + 50) / 100) ≤ t then (x + 50) / 100 else -1 := by
  unfold tonF
  by_cases c : (x + 50) / 100 < 25 ∧ -t ≤ x - 100 * ((x + 50) / 100) ∧ x - 100 * ((x + 50) / 100) ≤ t
  · rw [if_pos c, if_pos ⟨c.1, by split <;> omega⟩]
  · rw [if_neg c, if_neg (fun z => c ⟨z.1, by have := z.2; split at this <;> omega⟩)]
theorem tone_m {B : Int} {s : Int → Int} (ho : SOK B s) (hs : σ 93 = s) {x : Int} (hx : 0 ≤ x ∧ x ≤ 1000000) : Fw g zX6_toneOf [.ref 92, iv x] σ l (iv (tonF x (s 2))) := by
  have ht := ho.tol
  refine Fn.of [some (.ref 92), some (iv x), none, none, none] rfl (by decide) (Nat.le_of_ble_eq_true rfl) rfl ?_
  refine g_iload1 dX6_toneOf_0 ?_
  refine g_bipush dX6_toneOf_1 (by decide) ?_
  refine g_iadd dX6_toneOf_3 ?_
  refine g_bipush dX6_toneOf_4 (by decide) ?_
  refine g_idiv ⟨by omega, by omega⟩ ⟨by decide, by decide⟩ dX6_toneOf_6 ?_
  refine g_istore2 dX6_toneOf_7 rfl (by decide) ?_
  refine g_iload1 dX6_toneOf_8 ?_
  refine g_bipush dX6_toneOf_9 (by decide) ?_
  refine g_iload2 dX6_toneOf_11 ?_
  refine g_imul dX6_toneOf_12 ?_
  refine g_isub dX6_toneOf_13 ?_
  refine g_istore3 dX6_toneOf_14 rfl (by decide) ?_
  refine g_iload2 dX6_toneOf_15 ?_
  refine g_bipush dX6_toneOf_16 (by decide) ?_
  refine g_icmp_ge ⟨by omega, by omega⟩ ⟨by decide, by decide⟩ (tgt := 48) dX6_toneOf_18 rfl (fun h18 => ?_) (fun h18 => ?_)
  · refine g_iconst dX6_toneOf_48 ?_
    refine g_istore4 dX6_toneOf_49 rfl (by decide) ?_
    refine g_iload4 dX6_toneOf_51 ?_
    refine g_if_eq ⟨by decide, by decide⟩ (tgt := 60) dX6_toneOf_53 rfl (fun h53 => ?_) (fun h53 => absurd h53 (by decide))
    refine g_iconst dX6_toneOf_60 ?_
    refine g_iretI rfl dX6_toneOf_61 ?_
    first
      | exact Fw.ret (by rw [tonF_eq, if_neg (fun z => by omega)])
      | exact Fw.ret (by rw [tonF_eq, if_neg (fun z => h41 z.2)])
  · refine g_iload3 dX6_toneOf_21 ?_
    refine g_i2l ⟨by omega, by omega⟩ dX6_toneOf_22 ?_
    refine g_aload0 dX6_toneOf_23 ?_
    refine f_getr (r := 93) rfl (by decide) rfl rfl fl_X6_7 dX6_toneOf_24 ?_
    try rw [hs]
    refine g_iconst dX6_toneOf_27 ?_
    refine f_iald rfl (by decide) ⟨by omega, by show _ < ((67 : Nat) : Int); omega⟩ dX6_toneOf_28 ?_
    try rw [hs]
    refine g_ineg dX6_toneOf_29 ?_
    refine g_i2l ⟨by omega, by omega⟩ dX6_toneOf_30 ?_
    refine g_aload0 dX6_toneOf_31 ?_
    refine f_getr (r := 93) rfl (by decide) rfl rfl fl_X6_7 dX6_toneOf_32 ?_
    try rw [hs]
    refine g_iconst dX6_toneOf_35 ?_
    refine f_iald rfl (by decide) ⟨by omega, by show _ < ((67 : Nat) : Int); omega⟩ dX6_toneOf_36 ?_
    try rw [hs]
    refine g_i2l ⟨by omega, by omega⟩ dX6_toneOf_37 ?_
    refine f_cS3w (isIn_ok ⟨by omega, by omega⟩ ⟨by omega, by omega⟩ ⟨by omega, by omega⟩) oY_X6_isIn oT_X6_isIn lk_X6_83 rfl dX6_toneOf_38 rfl (Or.inl rfl) ?_
    refine g_ifeqB (tgt := 48) dX6_toneOf_41 rfl (fun h41 => ?_) (fun h41 => ?_)
    · refine g_iconst dX6_toneOf_48 ?_
      refine g_istore4 dX6_toneOf_49 rfl (by decide) ?_
      refine g_iload4 dX6_toneOf_51 ?_
      refine g_if_eq ⟨by decide, by decide⟩ (tgt := 60) dX6_toneOf_53 rfl (fun h53 => ?_) (fun h53 => absurd h53 (by decide))
      refine g_iconst dX6_toneOf_60 ?_
      refine g_iretI rfl dX6_toneOf_61 ?_
      first
        | exact Fw.ret (by rw [tonF_eq, if_neg (fun z => by omega)])
        | exact Fw.ret (by rw [tonF_eq, if_neg (fun z => h41 z.2)])
    · refine g_iconst dX6_toneOf_44 ?_
      refine g_goto (tgt := 49) dX6_toneOf_45 rfl ?_
      refine g_istore4 dX6_toneOf_49 rfl (by decide) ?_
      refine g_iload4 dX6_toneOf_51 ?_
      refine g_if_eq ⟨by decide, by decide⟩ (tgt := 60) dX6_toneOf_53 rfl (fun h53 => absurd h53 (by decide)) (fun h53 => ?_)
      refine g_iload2 dX6_toneOf_56 ?_
      refine g_goto (tgt := 61) dX6_toneOf_57 rfl ?_
      refine g_iretI rfl dX6_toneOf_61 ?_
      exact Fw.ret (by rw [tonF_eq, if_pos ⟨h18, h41⟩])
def hvC (r : Int) : Nat → Int
  | 0 => 0
  | k + 1 => hvC r k + (if dgt r k = 1 then 1 else 0)
def crC (r : Int) : Nat → Int
  | 0 => 0
  | k + 1 => crC r k + (if dgt r k = 2 ∧ r % ((3 ^ k : Nat) : Int) ≠ ((3 ^ k : Nat) : Int) - 1 then 1 else 0)
theorem hvC_7 (r : Int) : hvC r 7 = hvF r := by
  unfold hvF h1
  show 0 + (if r / ((3 ^ 0 : Nat) : Int) % 3 = 1 then 1 else 0) + (if r / ((3 ^ 1 : Nat) : Int) % 3 = 1 then 1 else 0) + (if r / ((3 ^ 2 : Nat) : Int) % 3 = 1 then 1 else 0) + (if r / ((3 ^ 3 : Nat) : Int) % 3 = 1 then 1 else 0) + (if r / ((3 ^ 4 : Nat) : Int) % 3 = 1 then 1 else 0) + (if r / ((3 ^ 5 : Nat) : Int) % 3 = 1 then 1 else 0) + (if r / ((3 ^ 6 : Nat) : Int) % 3 = 1 then 1 else 0) = _
  rw [show ((3 ^ 0 : Nat) : Int) = 1 from rfl, show ((3 ^ 1 : Nat) : Int) = 3 from rfl, show ((3 ^ 2 : Nat) : Int) = 9 from rfl, show ((3 ^ 3 : Nat) : Int) = 27 from rfl, show ((3 ^ 4 : Nat) : Int) = 81 from rfl, show ((3 ^ 5 : Nat) : Int) = 243 from rfl, show ((3 ^ 6 : Nat) : Int) = 729 from rfl, Int.ediv_one, Int.zero_add]
theorem crC_7 (r : Int) : crC r 7 = crF r := by
  unfold crF cq
  show 0 + (if r / ((3 ^ 0 : Nat) : Int) % 3 = 2 ∧ r % ((3 ^ 0 : Nat) : Int) ≠ ((3 ^ 0 : Nat) : Int) - 1 then 1 else 0) + (if r / ((3 ^ 1 : Nat) : Int) % 3 = 2 ∧ r % ((3 ^ 1 : Nat) : Int) ≠ ((3 ^ 1 : Nat) : Int) - 1 then 1 else 0) + (if r / ((3 ^ 2 : Nat) : Int) % 3 = 2 ∧ r % ((3 ^ 2 : Nat) : Int) ≠ ((3 ^ 2 : Nat) : Int) - 1 then 1 else 0) + (if r / ((3 ^ 3 : Nat) : Int) % 3 = 2 ∧ r % ((3 ^ 3 : Nat) : Int) ≠ ((3 ^ 3 : Nat) : Int) - 1 then 1 else 0) + (if r / ((3 ^ 4 : Nat) : Int) % 3 = 2 ∧ r % ((3 ^ 4 : Nat) : Int) ≠ ((3 ^ 4 : Nat) : Int) - 1 then 1 else 0) + (if r / ((3 ^ 5 : Nat) : Int) % 3 = 2 ∧ r % ((3 ^ 5 : Nat) : Int) ≠ ((3 ^ 5 : Nat) : Int) - 1 then 1 else 0) + (if r / ((3 ^ 6 : Nat) : Int) % 3 = 2 ∧ r % ((3 ^ 6 : Nat) : Int) ≠ ((3 ^ 6 : Nat) : Int) - 1 then 1 else 0) = _
  rw [show ((3 ^ 0 : Nat) : Int) = 1 from rfl, show ((3 ^ 1 : Nat) : Int) = 3 from rfl, show ((3 ^ 2 : Nat) : Int) = 9 from rfl, show ((3 ^ 3 : Nat) : Int) = 27 from rfl, show ((3 ^ 4 : Nat) : Int) = 81 from rfl, show ((3 ^ 5 : Nat) : Int) = 243 from rfl, show ((3 ^ 6 : Nat) : Int) = 729 from rfl, if_neg (show ¬ (r / 1 % 3 = 2 ∧ r % 1 ≠ 1 - 1) from by omega), Int.zero_add, Int.zero_add]
theorem hvC_H {r : Int} {H : Nat} (h0 : 0 ≤ r) (h1 : r < ((3 ^ H : Nat) : Int)) : ∀ d : Nat, hvC r (H + d) = hvC r H := by
  intro d
  induction d with
  | zero => rfl
  | succ d ih =>
    have hp : ((3 ^ H : Nat) : Int) ≤ ((3 ^ (H + d) : Nat) : Int) := Int.ofNat_le.mpr (Nat.pow_le_pow_right (by decide) (by omega))
    show hvC r (H + d) + (if dgt r (H + d) = 1 then 1 else 0) = _
    rw [ih, dgt_small (k := H + d) h0 (by omega), if_neg (by decide), Int.add_zero]
theorem crC_H {r : Int} {H : Nat} (h0 : 0 ≤ r) (h1 : r < ((3 ^ H : Nat) : Int)) : ∀ d : Nat, crC r (H + d) = crC r H := by
  intro d
  induction d with
  | zero => rfl
  | succ d ih =>
    have hp : ((3 ^ H : Nat) : Int) ≤ ((3 ^ (H + d) : Nat) : Int) := Int.ofNat_le.mpr (Nat.pow_le_pow_right (by decide) (by omega))
    show crC r (H + d) + (if dgt r (H + d) = 2 ∧ r % ((3 ^ (H + d) : Nat) : Int) ≠ ((3 ^ (H + d) : Nat) : Int) - 1 then 1 else 0) = _
    rw [ih, dgt_small (k := H + d) h0 (by omega), if_neg (fun z => by omega), Int.add_zero]
theorem hv_fin {r : Int} {H : Nat} (hH : H ≤ 7) (h0 : 0 ≤ r) (h1 : r < ((3 ^ H : Nat) : Int)) : hvC r H = hvF r := by
  rw [← hvC_7, ← hvC_H h0 h1 (7 - H), show H + (7 - H) = 7 from by omega]
theorem cr_fin {r : Int} {H : Nat} (hH : H ≤ 7) (h0 : 0 ≤ r) (h1 : r < ((3 ^ H : Nat) : Int)) : crC r H = crF r := by
  rw [← crC_7, ← crC_H h0 h1 (7 - H), show H + (7 - H) = 7 from by omega]
theorem md_s (r : Int) {k : Nat} (hk : k < 7) : (r % ((3 ^ (k + 1) : Nat) : Int) ≠ ((3 ^ (k + 1) : Nat) : Int) - 1) ↔ (r % ((3 ^ k : Nat) : Int) ≠ ((3 ^ k : Nat) : Int) - 1 ∨ dgt r k ≠ 2) := by
  unfold dgt
  have h : k = 0 ∨ k = 1 ∨ k = 2 ∨ k = 3 ∨ k = 4 ∨ k = 5 ∨ k = 6 := by omega
  rcases h with rfl | rfl | rfl | rfl | rfl | rfl | rfl
  · rw [show ((3 ^ (0 + 1) : Nat) : Int) = 3 from rfl, show ((3 ^ 0 : Nat) : Int) = 1 from rfl]; omega
  · rw [show ((3 ^ (1 + 1) : Nat) : Int) = 9 from rfl, show ((3 ^ 1 : Nat) : Int) = 3 from rfl]; omega
  · rw [show ((3 ^ (2 + 1) : Nat) : Int) = 27 from rfl, show ((3 ^ 2 : Nat) : Int) = 9 from rfl]; omega
  · rw [show ((3 ^ (3 + 1) : Nat) : Int) = 81 from rfl, show ((3 ^ 3 : Nat) : Int) = 27 from rfl]; omega
  · rw [show ((3 ^ (4 + 1) : Nat) : Int) = 243 from rfl, show ((3 ^ 4 : Nat) : Int) = 81 from rfl]; omega
  · rw [show ((3 ^ (5 + 1) : Nat) : Int) = 729 from rfl, show ((3 ^ 5 : Nat) : Int) = 243 from rfl]; omega
  · rw [show ((3 ^ (6 + 1) : Nat) : Int) = 2187 from rfl, show ((3 ^ 6 : Nat) : Int) = 729 from rfl]; omega
theorem many1_m {B : Int} {s : Int → Int} (ho : SOK B s) (hs : σ 93 = s) {p : Int} (hp : 0 ≤ p ∧ p < 2 * ((3 ^ wH s : Nat) : Int)) : Fw g zX6_manyHow [.ref 92, iv p, iv 1] σ l (iv (hvF (fgF ((3 ^ wH s : Nat) : Int) p))) := by
  have h7 := ho.h7
  have hI := ho.hI
  have hp3 := p3_le h7
  have hfg := fgF_rng hp.1 hp.2
  refine Fn.of [some (.ref 92), some (iv p), some (iv 1), none, none] rfl (by decide) (Nat.le_of_ble_eq_true rfl) rfl ?_
  have loop : ∀ q : Nat, q ≤ wH s → ∀ i v : Int, i = (q : Int) → v = hvC (fgF ((3 ^ wH s : Nat) : Int) p) q → FW g zX6_manyHow 0 0 (fun q σ' l' => q = .inl (some (iv (hvF (fgF ((3 ^ wH s : Nat) : Int) p)))) ∧ σ' = σ ∧ l' = l) 5 [some (.ref 92), some (iv p), some (iv 1), some (iv v), some (iv i)] [] σ l := by
    refine loopUp _ (fun q hq2 ih i v hi hv => ?_)
    subst hi
    refine g_iload4 dX6_manyHow_5 ?_
    refine g_aload0 dX6_manyHow_7 ?_
    refine f_getr (r := 93) rfl (by decide) rfl rfl fl_X6_7 dX6_manyHow_8 ?_
    try rw [hs]
    refine g_iconst dX6_manyHow_11 ?_
    refine f_iald rfl (by decide) ⟨by omega, by show _ < ((67 : Nat) : Int); omega⟩ dX6_manyHow_12 ?_
    try rw [hs]
    refine g_icmp_ge ⟨by omega, by omega⟩ ⟨by omega, by omega⟩ (tgt := 41) dX6_manyHow_13 rfl (fun h13 => ?_) (fun h13 => ?_)
    · refine g_iload3 dX6_manyHow_41 ?_
      refine g_iretI rfl dX6_manyHow_42 ?_
      exact Fw.ret (by rw [hv, show q = wH s from by omega, hv_fin h7 hfg.1 hfg.2])
    · have hdd := dg_rng (p / ((3 ^ q : Nat) : Int))
      rw [show p / ((3 ^ q : Nat) : Int) % 3 = dgt p q from rfl] at hdd
      have hd := dgt_fg (k := q) (H := wH s) (by omega) p
      refine g_iload3 dX6_manyHow_16 ?_
      refine g_aload0 dX6_manyHow_17 ?_
      refine g_iload1 dX6_manyHow_18 ?_
      refine g_iload4 dX6_manyHow_19 ?_
      refine f_cV2w (cover_m ⟨by omega, by omega⟩ (by omega)) rfl (by decide) rfl oY_X6_coverOf oI_X6_coverOf lk_X6_90 rfl dX6_manyHow_21 rfl (Or.inl rfl) ?_
      refine g_iload2 dX6_manyHow_24 ?_
      refine g_icmp_ne ⟨by omega, by omega⟩ ⟨by decide, by decide⟩ (tgt := 32) dX6_manyHow_25 rfl (fun h25 => ?_) (fun h25 => ?_)
      · refine g_iconst dX6_manyHow_32 ?_
        refine g_iadd dX6_manyHow_33 ?_
        refine g_istore3 dX6_manyHow_34 rfl (by decide) ?_
        refine g_iinc4 dX6_manyHow_35 rfl (by decide) ?_
        refine g_goto (tgt := 5) dX6_manyHow_38 rfl ?_
        first
          | exact ih (by omega) _ _ (by push_cast; omega) (by rw [hv, hvC, hd, if_pos (by omega)])
          | exact ih (by omega) _ _ (by push_cast; omega) (by rw [hv, hvC, hd, if_neg (by omega)])
      · refine g_iconst dX6_manyHow_28 ?_
        refine g_goto (tgt := 33) dX6_manyHow_29 rfl ?_
        refine g_iadd dX6_manyHow_33 ?_
        refine g_istore3 dX6_manyHow_34 rfl (by decide) ?_
        refine g_iinc4 dX6_manyHow_35 rfl (by decide) ?_
        refine g_goto (tgt := 5) dX6_manyHow_38 rfl ?_
        first
          | exact ih (by omega) _ _ (by push_cast; omega) (by rw [hv, hvC, hd, if_pos (by omega)])
          | exact ih (by omega) _ _ (by push_cast; omega) (by rw [hv, hvC, hd, if_neg (by omega)])
  refine g_iconst dX6_manyHow_0 ?_
  refine g_istore3 dX6_manyHow_1 rfl (by decide) ?_
  refine g_iconst dX6_manyHow_2 ?_
  refine g_istore4 dX6_manyHow_3 rfl (by decide) ?_
  exact loop 0 (Nat.zero_le _) _ _ rfl rfl
theorem cross_m {B : Int} {s : Int → Int} (ho : SOK B s) (hs : σ 93 = s) {p : Int} (hp : 0 ≤ p ∧ p < 2 * ((3 ^ wH s : Nat) : Int)) : Fw g zX6_crossesOf [.ref 92, iv p] σ l (iv (crF (fgF ((3 ^ wH s : Nat) : Int) p))) := by
  have h7 := ho.h7
  have hI := ho.hI
  have hp3 := p3_le h7
  have hfg := fgF_rng hp.1 hp.2
  refine Fn.of [some (.ref 92), some (iv p), none, none, none, none] rfl (by decide) (Nat.le_of_ble_eq_true rfl) rfl ?_
  have loop : ∀ q : Nat, q ≤ wH s → ∀ (i v w : Int) (u5 : Option Value), i = (q : Int) → v = crC (fgF ((3 ^ wH s : Nat) : Int) p) q → w = (if (fgF ((3 ^ wH s : Nat) : Int) p) % ((3 ^ q : Nat) : Int) ≠ ((3 ^ q : Nat) : Int) - 1 then 1 else 0) → FW g zX6_crossesOf 0 0 (fun q σ' l' => q = .inl (some (iv (crF (fgF ((3 ^ wH s : Nat) : Int) p)))) ∧ σ' = σ ∧ l' = l) 7 [some (.ref 92), some (iv p), some (iv v), some (iv w), some (iv i), u5] [] σ l := by
    refine loopUp _ (fun q hq2 ih i v w u5 hi hv hw => ?_)
    subst hi
    have hw01 : 0 ≤ w ∧ w ≤ 1 := by rw [hw]; split <;> omega
    refine g_iload4 dX6_crossesOf_7 ?_
    refine g_aload0 dX6_crossesOf_9 ?_
    refine f_getr (r := 93) rfl (by decide) rfl rfl fl_X6_7 dX6_crossesOf_10 ?_
    try rw [hs]
    refine g_iconst dX6_crossesOf_13 ?_
    refine f_iald rfl (by decide) ⟨by omega, by show _ < ((67 : Nat) : Int); omega⟩ dX6_crossesOf_14 ?_
    try rw [hs]
    refine g_icmp_ge ⟨by omega, by omega⟩ ⟨by omega, by omega⟩ (tgt := 67) dX6_crossesOf_15 rfl (fun h15 => ?_) (fun h15 => ?_)
    · refine g_iload2 dX6_crossesOf_67 ?_
      refine g_iretI rfl dX6_crossesOf_68 ?_
      exact Fw.ret (by rw [hv, show q = wH s from by omega, cr_fin h7 hfg.1 hfg.2])
    · have hdd := dg_rng (p / ((3 ^ q : Nat) : Int))
      rw [show p / ((3 ^ q : Nat) : Int) % 3 = dgt p q from rfl] at hdd
      have hd := dgt_fg (k := q) (H := wH s) (by omega) p
      have hms := md_s (fgF ((3 ^ wH s : Nat) : Int) p) (k := q) (by omega)
      rw [hd] at hms
      have hcs : crC (fgF ((3 ^ wH s : Nat) : Int) p) (q + 1) = crC (fgF ((3 ^ wH s : Nat) : Int) p) q + (if dgt p q = 2 ∧ (fgF ((3 ^ wH s : Nat) : Int) p) % ((3 ^ q : Nat) : Int) ≠ ((3 ^ q : Nat) : Int) - 1 then 1 else 0) := by rw [← hd]; rfl
      have hwn : (w ≠ 0) ↔ (fgF ((3 ^ wH s : Nat) : Int) p) % ((3 ^ q : Nat) : Int) ≠ ((3 ^ q : Nat) : Int) - 1 := by
        rw [hw]
        constructor
        · intro z
          split at z
          · assumption
          · omega
        · intro z
          rw [if_pos z]
          decide
      refine g_aload0 dX6_crossesOf_18 ?_
      refine g_iload1 dX6_crossesOf_19 ?_
      refine g_iload4 dX6_crossesOf_20 ?_
      refine f_cV2w (cover_m ⟨by omega, by omega⟩ (by omega)) rfl (by decide) rfl oY_X6_coverOf oI_X6_coverOf lk_X6_90 rfl dX6_crossesOf_22 rfl (Or.inl rfl) ?_
      refine g_istore5 dX6_crossesOf_25 rfl (by decide) ?_
      refine g_iload2 dX6_crossesOf_27 ?_
      refine g_iload5 dX6_crossesOf_28 ?_
      refine g_iconst dX6_crossesOf_30 ?_
      refine g_icmp_ne ⟨by omega, by omega⟩ ⟨by decide, by decide⟩ (tgt := 42) dX6_crossesOf_31 rfl (fun h31 => ?_) (fun h31 => ?_)
      · refine g_iconst dX6_crossesOf_42 ?_
        refine g_iadd dX6_crossesOf_43 ?_
        refine g_istore2 dX6_crossesOf_44 rfl (by decide) ?_
        refine g_iload3 dX6_crossesOf_45 ?_
        refine g_if_ne ⟨by omega, by omega⟩ (tgt := 55) dX6_crossesOf_46 rfl (fun h46 => ?_) (fun h46 => ?_)
        · refine g_iconst dX6_crossesOf_55 ?_
          refine g_goto (tgt := 60) dX6_crossesOf_56 rfl ?_
          refine g_istore3 dX6_crossesOf_60 rfl (by decide) ?_
          refine g_iinc4 dX6_crossesOf_61 rfl (by decide) ?_
          refine g_goto (tgt := 7) dX6_crossesOf_64 rfl ?_
          refine ih (by omega) _ _ _ _ (by push_cast; omega) ?_ ?_
          · rw [hv, hcs]
            first
              | (exfalso; omega)
              | (rw [if_pos ⟨by omega, hwn.mp (by omega)⟩])
              | (rw [if_neg (fun z => by have := hwn.mpr z.2; omega)])
          · first
              | (exfalso; omega)
              | (rw [if_pos (hms.mpr (Or.inl (hwn.mp (by omega))))])
              | (rw [if_pos (hms.mpr (Or.inr (by omega)))])
              | (rw [if_neg (fun z => by rcases hms.mp z with z1 | z1; (have := hwn.mpr z1; omega); omega)])
        · refine g_iload5 dX6_crossesOf_49 ?_
          refine g_iconst dX6_crossesOf_51 ?_
          refine g_icmp_eq ⟨by omega, by omega⟩ ⟨by decide, by decide⟩ (tgt := 59) dX6_crossesOf_52 rfl (fun h52 => ?_) (fun h52 => ?_)
          · refine g_iconst dX6_crossesOf_59 ?_
            refine g_istore3 dX6_crossesOf_60 rfl (by decide) ?_
            refine g_iinc4 dX6_crossesOf_61 rfl (by decide) ?_
            refine g_goto (tgt := 7) dX6_crossesOf_64 rfl ?_
            refine ih (by omega) _ _ _ _ (by push_cast; omega) ?_ ?_
            · rw [hv, hcs]
              first
                | (exfalso; omega)
                | (rw [if_pos ⟨by omega, hwn.mp (by omega)⟩])
                | (rw [if_neg (fun z => by have := hwn.mpr z.2; omega)])
            · first
                | (exfalso; omega)
                | (rw [if_pos (hms.mpr (Or.inl (hwn.mp (by omega))))])
                | (rw [if_pos (hms.mpr (Or.inr (by omega)))])
                | (rw [if_neg (fun z => by rcases hms.mp z with z1 | z1; (have := hwn.mpr z1; omega); omega)])
          · refine g_iconst dX6_crossesOf_55 ?_
            refine g_goto (tgt := 60) dX6_crossesOf_56 rfl ?_
            refine g_istore3 dX6_crossesOf_60 rfl (by decide) ?_
            refine g_iinc4 dX6_crossesOf_61 rfl (by decide) ?_
            refine g_goto (tgt := 7) dX6_crossesOf_64 rfl ?_
            refine ih (by omega) _ _ _ _ (by push_cast; omega) ?_ ?_
            · rw [hv, hcs]
              first
                | (exfalso; omega)
                | (rw [if_pos ⟨by omega, hwn.mp (by omega)⟩])
                | (rw [if_neg (fun z => by have := hwn.mpr z.2; omega)])
            · first
                | (exfalso; omega)
                | (rw [if_pos (hms.mpr (Or.inl (hwn.mp (by omega))))])
                | (rw [if_pos (hms.mpr (Or.inr (by omega)))])
                | (rw [if_neg (fun z => by rcases hms.mp z with z1 | z1; (have := hwn.mpr z1; omega); omega)])
      · refine g_iload3 dX6_crossesOf_34 ?_
        refine g_if_eq ⟨by omega, by omega⟩ (tgt := 42) dX6_crossesOf_35 rfl (fun h35 => ?_) (fun h35 => ?_)
        · refine g_iconst dX6_crossesOf_42 ?_
          refine g_iadd dX6_crossesOf_43 ?_
          refine g_istore2 dX6_crossesOf_44 rfl (by decide) ?_
          refine g_iload3 dX6_crossesOf_45 ?_
          refine g_if_ne ⟨by omega, by omega⟩ (tgt := 55) dX6_crossesOf_46 rfl (fun h46 => ?_) (fun h46 => ?_)
          · refine g_iconst dX6_crossesOf_55 ?_
            refine g_goto (tgt := 60) dX6_crossesOf_56 rfl ?_
            refine g_istore3 dX6_crossesOf_60 rfl (by decide) ?_
            refine g_iinc4 dX6_crossesOf_61 rfl (by decide) ?_
            refine g_goto (tgt := 7) dX6_crossesOf_64 rfl ?_
            refine ih (by omega) _ _ _ _ (by push_cast; omega) ?_ ?_
            · rw [hv, hcs]
              first
                | (exfalso; omega)
                | (rw [if_pos ⟨by omega, hwn.mp (by omega)⟩])
                | (rw [if_neg (fun z => by have := hwn.mpr z.2; omega)])
            · first
                | (exfalso; omega)
                | (rw [if_pos (hms.mpr (Or.inl (hwn.mp (by omega))))])
                | (rw [if_pos (hms.mpr (Or.inr (by omega)))])
                | (rw [if_neg (fun z => by rcases hms.mp z with z1 | z1; (have := hwn.mpr z1; omega); omega)])
          · refine g_iload5 dX6_crossesOf_49 ?_
            refine g_iconst dX6_crossesOf_51 ?_
            refine g_icmp_eq ⟨by omega, by omega⟩ ⟨by decide, by decide⟩ (tgt := 59) dX6_crossesOf_52 rfl (fun h52 => ?_) (fun h52 => ?_)
            · refine g_iconst dX6_crossesOf_59 ?_
              refine g_istore3 dX6_crossesOf_60 rfl (by decide) ?_
              refine g_iinc4 dX6_crossesOf_61 rfl (by decide) ?_
              refine g_goto (tgt := 7) dX6_crossesOf_64 rfl ?_
              refine ih (by omega) _ _ _ _ (by push_cast; omega) ?_ ?_
              · rw [hv, hcs]
                first
                  | (exfalso; omega)
                  | (rw [if_pos ⟨by omega, hwn.mp (by omega)⟩])
                  | (rw [if_neg (fun z => by have := hwn.mpr z.2; omega)])
              · first
                  | (exfalso; omega)
                  | (rw [if_pos (hms.mpr (Or.inl (hwn.mp (by omega))))])
                  | (rw [if_pos (hms.mpr (Or.inr (by omega)))])
                  | (rw [if_neg (fun z => by rcases hms.mp z with z1 | z1; (have := hwn.mpr z1; omega); omega)])
            · refine g_iconst dX6_crossesOf_55 ?_
              refine g_goto (tgt := 60) dX6_crossesOf_56 rfl ?_
              refine g_istore3 dX6_crossesOf_60 rfl (by decide) ?_
              refine g_iinc4 dX6_crossesOf_61 rfl (by decide) ?_
              refine g_goto (tgt := 7) dX6_crossesOf_64 rfl ?_
              refine ih (by omega) _ _ _ _ (by push_cast; omega) ?_ ?_
              · rw [hv, hcs]
                first
                  | (exfalso; omega)
                  | (rw [if_pos ⟨by omega, hwn.mp (by omega)⟩])
                  | (rw [if_neg (fun z => by have := hwn.mpr z.2; omega)])
              · first
                  | (exfalso; omega)
                  | (rw [if_pos (hms.mpr (Or.inl (hwn.mp (by omega))))])
                  | (rw [if_pos (hms.mpr (Or.inr (by omega)))])
                  | (rw [if_neg (fun z => by rcases hms.mp z with z1 | z1; (have := hwn.mpr z1; omega); omega)])
        · refine g_iconst dX6_crossesOf_38 ?_
          refine g_goto (tgt := 43) dX6_crossesOf_39 rfl ?_
          refine g_iadd dX6_crossesOf_43 ?_
          refine g_istore2 dX6_crossesOf_44 rfl (by decide) ?_
          refine g_iload3 dX6_crossesOf_45 ?_
          refine g_if_ne ⟨by omega, by omega⟩ (tgt := 55) dX6_crossesOf_46 rfl (fun h46 => ?_) (fun h46 => ?_)
          · refine g_iconst dX6_crossesOf_55 ?_
            refine g_goto (tgt := 60) dX6_crossesOf_56 rfl ?_
            refine g_istore3 dX6_crossesOf_60 rfl (by decide) ?_
            refine g_iinc4 dX6_crossesOf_61 rfl (by decide) ?_
            refine g_goto (tgt := 7) dX6_crossesOf_64 rfl ?_
            refine ih (by omega) _ _ _ _ (by push_cast; omega) ?_ ?_
            · rw [hv, hcs]
              first
                | (exfalso; omega)
                | (rw [if_pos ⟨by omega, hwn.mp (by omega)⟩])
                | (rw [if_neg (fun z => by have := hwn.mpr z.2; omega)])
            · first
                | (exfalso; omega)
                | (rw [if_pos (hms.mpr (Or.inl (hwn.mp (by omega))))])
                | (rw [if_pos (hms.mpr (Or.inr (by omega)))])
                | (rw [if_neg (fun z => by rcases hms.mp z with z1 | z1; (have := hwn.mpr z1; omega); omega)])
          · refine g_iload5 dX6_crossesOf_49 ?_
            refine g_iconst dX6_crossesOf_51 ?_
            refine g_icmp_eq ⟨by omega, by omega⟩ ⟨by decide, by decide⟩ (tgt := 59) dX6_crossesOf_52 rfl (fun h52 => ?_) (fun h52 => ?_)
            · refine g_iconst dX6_crossesOf_59 ?_
              refine g_istore3 dX6_crossesOf_60 rfl (by decide) ?_
              refine g_iinc4 dX6_crossesOf_61 rfl (by decide) ?_
              refine g_goto (tgt := 7) dX6_crossesOf_64 rfl ?_
              refine ih (by omega) _ _ _ _ (by push_cast; omega) ?_ ?_
              · rw [hv, hcs]
                first
                  | (exfalso; omega)
                  | (rw [if_pos ⟨by omega, hwn.mp (by omega)⟩])
                  | (rw [if_neg (fun z => by have := hwn.mpr z.2; omega)])
              · first
                  | (exfalso; omega)
                  | (rw [if_pos (hms.mpr (Or.inl (hwn.mp (by omega))))])
                  | (rw [if_pos (hms.mpr (Or.inr (by omega)))])
                  | (rw [if_neg (fun z => by rcases hms.mp z with z1 | z1; (have := hwn.mpr z1; omega); omega)])
            · refine g_iconst dX6_crossesOf_55 ?_
              refine g_goto (tgt := 60) dX6_crossesOf_56 rfl ?_
              refine g_istore3 dX6_crossesOf_60 rfl (by decide) ?_
              refine g_iinc4 dX6_crossesOf_61 rfl (by decide) ?_
              refine g_goto (tgt := 7) dX6_crossesOf_64 rfl ?_
              refine ih (by omega) _ _ _ _ (by push_cast; omega) ?_ ?_
              · rw [hv, hcs]
                first
                  | (exfalso; omega)
                  | (rw [if_pos ⟨by omega, hwn.mp (by omega)⟩])
                  | (rw [if_neg (fun z => by have := hwn.mpr z.2; omega)])
              · first
                  | (exfalso; omega)
                  | (rw [if_pos (hms.mpr (Or.inl (hwn.mp (by omega))))])
                  | (rw [if_pos (hms.mpr (Or.inr (by omega)))])
                  | (rw [if_neg (fun z => by rcases hms.mp z with z1 | z1; (have := hwn.mpr z1; omega); omega)])
  refine g_iconst dX6_crossesOf_0 ?_
  refine g_istore2 dX6_crossesOf_1 rfl (by decide) ?_
  refine g_iconst dX6_crossesOf_2 ?_
  refine g_istore3 dX6_crossesOf_3 rfl (by decide) ?_
  refine g_iconst dX6_crossesOf_4 ?_
  refine g_istore4 dX6_crossesOf_5 rfl (by decide) ?_
  exact loop 0 (Nat.zero_le _) _ _ _ _ rfl rfl (by rw [Nat.pow_zero, if_neg (by omega)])
/-- what the model reckons anew -/
def Md (σ τ : sT) : Prop := (∀ a, a ≠ 92 → a < 98 ∨ 104 < a → τ a = σ a) ∧ ∀ j, j ≠ 6 → τ 92 j = σ 92 j
theorem Md.refl (σ : sT) : Md σ σ := ⟨fun _ _ _ => rfl, fun _ _ => rfl⟩
theorem Md.trans {σ τ ρ : sT} (h : Md σ τ) (h2 : Md τ ρ) : Md σ ρ := ⟨fun a a0 a1 => (h2.1 a a0 a1).trans (h.1 a a0 a1), fun j hj => (h2.2 j hj).trans (h.2 j hj)⟩
theorem md_up {σ τ : sT} {a : Nat} {j v : Int} (h : Md σ τ) (h0 : 98 ≤ a) (h1 : a ≤ 104) : Md σ (up τ a j v) := ⟨fun b b0 b1 => by rw [up_n (by omega)]; exact h.1 b b0 b1, fun i hi => by rw [up_n (by omega)]; exact h.2 i hi⟩
theorem md_th {σ τ : sT} {v : Int} (h : Md σ τ) : Md σ (up τ 92 6 v) := ⟨fun b b0 b1 => by rw [up_n b0]; exact h.1 b b0 b1, fun i hi => by rw [up_ne (fun z => hi z.2)]; exact h.2 i hi⟩
theorem Md.s {σ τ : sT} {s : Int → Int} (h : Md σ τ) (hs : σ 93 = s) : τ 93 = s := (h.1 93 (by decide) (Or.inl (by decide))).trans hs
/-- the plays are laid -/
def LdP (τ : sT) (s : Int → Int) : Prop := (∀ k, 0 ≤ k → k < 49 → τ 98 k = stI (10 * s 0 + 6 * s 1) k) ∧ ∀ p, 0 ≤ p → p < 2 * ((3 ^ wH s : Nat) : Int) → τ 99 p = wT s p ∧ τ 100 p = hvF (fgF ((3 ^ wH s : Nat) : Int) p) ∧ τ 101 p = crF (fgF ((3 ^ wH s : Nat) : Int) p)
theorem wT_eq (s : Int → Int) (p : Int) : wT s p = tonF (wCn s p) (s 2) := rfl
theorem laysPlays_m {B : Int} {s : Int → Int} (ho : SOK B s) (hs : σ 93 = s) : Fn g zX6_laysPlays 0 0 [.ref 92] σ l (fun o τ l' => o = .inl none ∧ l' = l ∧ Md σ τ ∧ LdP τ s ∧ τ 92 = σ 92) := by
  have hp3 := p3_le ho.h7
  have hp0 := p3_pos (wH s)
  refine Fn.of [some (.ref 92), none, none] rfl (by decide) (Nat.le_of_ble_eq_true rfl) rfl ?_
  have loop : ∀ q : Nat, q ≤ 2 * 3 ^ wH s → ∀ (i : Int) (τ : sT), i = (q : Int) → Md σ τ → τ 92 = σ 92 → (∀ k, 0 ≤ k → k < 49 → τ 98 k = stI (10 * s 0 + 6 * s 1) k) → (∀ p, 0 ≤ p → p < (q : Int) → τ 99 p = wT s p ∧ τ 100 p = hvF (fgF ((3 ^ wH s : Nat) : Int) p) ∧ τ 101 p = crF (fgF ((3 ^ wH s : Nat) : Int) p)) → FW g zX6_laysPlays 0 0 (fun o τ l' => o = .inl none ∧ l' = l ∧ Md σ τ ∧ LdP τ s ∧ τ 92 = σ 92) 11 [some (.ref 92), some (iv (2 * ((3 ^ wH s : Nat) : Int))), some (iv i)] [] τ l := by
    refine loopUp _ (fun q hq2 ih i τ hi hm h92 hst hv => ?_)
    subst hi
    have hs' := hm.s hs
    refine g_iload2 dX6_laysPlays_11 ?_
    refine g_iload1 dX6_laysPlays_12 ?_
    refine g_icmp_ge ⟨by omega, by omega⟩ ⟨by omega, by omega⟩ (tgt := 60) dX6_laysPlays_13 rfl (fun h13 => ?_) (fun h13 => ?_)
    · refine g_return rfl dX6_laysPlays_60 ?_
      exact fn_ret ⟨rfl, rfl, hm, ⟨hst, fun p a b => hv p a (by omega)⟩, h92⟩
    · refine g_aload0 dX6_laysPlays_16 ?_
      refine f_getr (r := 99) rfl (by decide) rfl rfl fl_X6_30 dX6_laysPlays_17 ?_
      refine g_iload2 dX6_laysPlays_20 ?_
      refine g_aload0 dX6_laysPlays_21 ?_
      refine g_aload0 dX6_laysPlays_22 ?_
      refine g_iload2 dX6_laysPlays_23 ?_
      refine f_cV1w (cents_m ho hs' rfl hst ⟨by omega, by omega⟩) rfl (by decide) rfl oY_X6_centsOf oI_X6_centsOf lk_X6_127 rfl dX6_laysPlays_24 rfl (Or.inl rfl) ?_
      refine f_cV1w (tone_m ho hs' ⟨(wCn_rng ho _).1, by have := (wCn_rng ho (q : Int)).2; omega⟩) rfl (by decide) rfl oY_X6_toneOf oI_X6_toneOf lk_X6_130 rfl dX6_laysPlays_27 rfl (Or.inl rfl) ?_
      refine f_iast rfl (by decide) ⟨by omega, by show _ < ((4374 : Nat) : Int); omega⟩ dX6_laysPlays_30 ?_
      refine g_aload0 dX6_laysPlays_31 ?_
      refine f_getr (r := 100) rfl (by decide) rfl rfl fl_X6_33 dX6_laysPlays_32 ?_
      refine g_iload2 dX6_laysPlays_35 ?_
      refine g_aload0 dX6_laysPlays_36 ?_
      refine g_iload2 dX6_laysPlays_37 ?_
      refine g_iconst dX6_laysPlays_38 ?_
      refine f_cV2w (many1_m ho (by rw [up_n (by decide)]; exact hs') ⟨by omega, by omega⟩) rfl (by decide) rfl oY_X6_manyHow oI_X6_manyHow lk_X6_133 rfl dX6_laysPlays_39 rfl (Or.inl rfl) ?_
      refine f_iast rfl (by decide) ⟨by omega, by show _ < ((4374 : Nat) : Int); omega⟩ dX6_laysPlays_42 ?_
      refine g_aload0 dX6_laysPlays_43 ?_
      refine f_getr (r := 101) rfl (by decide) rfl rfl fl_X6_36 dX6_laysPlays_44 ?_
      refine g_iload2 dX6_laysPlays_47 ?_
      refine g_aload0 dX6_laysPlays_48 ?_
      refine g_iload2 dX6_laysPlays_49 ?_
      refine f_cV1w (cross_m ho (by rw [up_n (by decide), up_n (by decide)]; exact hs') ⟨by omega, by omega⟩) rfl (by decide) rfl oY_X6_crossesOf oI_X6_crossesOf lk_X6_136 rfl dX6_laysPlays_50 rfl (Or.inl rfl) ?_
      refine f_iast rfl (by decide) ⟨by omega, by show _ < ((4374 : Nat) : Int); omega⟩ dX6_laysPlays_53 ?_
      refine g_iinc2 dX6_laysPlays_54 rfl (by decide) ?_
      refine g_goto (tgt := 11) dX6_laysPlays_57 rfl ?_
      refine ih (by omega) _ _ (by push_cast; omega) (md_up (md_up (md_up hm (by decide) (by decide)) (by decide) (by decide)) (by decide) (by decide)) (by rw [up_n (by decide), up_n (by decide), up_n (by decide)]; exact h92) (fun k a b => by rw [up_n (by decide), up_n (by decide), up_n (by decide)]; exact hst k a b) (fun p a b => ?_)
      by_cases e : p = (q : Int)
      · subst e
        refine ⟨?_, ?_, ?_⟩
        · rw [up_n (by decide), up_n (by decide), up_eq]; rfl
        · rw [up_n (by decide), up_eq]
        · rw [up_eq]
      · obtain ⟨x1, x2, x3⟩ := hv p a (by omega)
        refine ⟨?_, ?_, ?_⟩
        · rw [up_n (by decide), up_n (by decide), up_ne (fun z => e z.2)]; exact x1
        · rw [up_n (by decide), up_ne (fun z => e z.2), up_n (by decide)]; exact x2
        · rw [up_ne (fun z => e z.2), up_n (by decide), up_n (by decide)]; exact x3
  refine g_aload0 dX6_laysPlays_0 ?_
  refine f_cV0m (laysSteps_m ho hs) rfl (by decide) rfl oY_X6_laysSteps oI_X6_laysSteps lk_X6_124 rfl dX6_laysPlays_1 (by omega) (by omega) rfl (Or.inl rfl) (fun σ1 l1 h1 => ?_)
  obtain ⟨e1, f1, v1⟩ := h1
  subst e1
  refine g_aload0 dX6_laysPlays_4 ?_
  refine f_cV0w (many_ok ho ((f1 93 (by decide)).trans hs)) rfl (by decide) rfl oY_X6_many oI_X6_many lk_X6_80 rfl dX6_laysPlays_5 rfl (Or.inl rfl) ?_
  refine g_istore1 dX6_laysPlays_8 rfl (by decide) ?_
  refine g_iconst dX6_laysPlays_9 ?_
  refine g_istore2 dX6_laysPlays_10 rfl (by decide) ?_
  exact loop 0 (Nat.zero_le _) _ _ rfl ⟨fun a a0 a1 => f1 a (by omega), fun j _ => congrFun (f1 92 (by decide)) j⟩ (f1 92 (by decide)) v1 (fun p a b => by omega)
end C67
