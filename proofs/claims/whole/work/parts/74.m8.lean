/-! The model's questions, more -/
section C74
variable {g : gT} {σ : sT} {l : Nat → Nat}
theorem kn_X6_348 : Cond.constantLong RX6 348 (Int64.ofInt (-12)) ∈ WS := by
  rw [show Int64.ofInt (-12) = (-12 : Int64) from by decide]
  exact kl_X6_348
theorem rests_m {B : Int} {s : Int → Int} (ho : SOK B s) (hs : σ 93 = s) : Fw g zX6_rests [.ref 92] σ l (iv ((wN s : Int) - cntS (wTu s) (wN s))) := by
  have hnI := ho.nI
  have hn40 := ho.n40
  refine Fn.of [some (.ref 92), none, none] rfl (by decide) (Nat.le_of_ble_eq_true rfl) rfl ?_
  have loop : ∀ q : Nat, q ≤ wN s → ∀ (i x : Int), i = (q : Int) → x = (q : Int) - cntS (wTu s) q → FW g zX6_rests 0 0 (fun o σ' l' => o = .inl (some (iv ((wN s : Int) - cntS (wTu s) (wN s)))) ∧ σ' = σ ∧ l' = l) 4 [some (.ref 92), some (iv x), some (iv i)] [] σ l := by
    refine loopUp _ (fun q hq2 ih i x hi hx => ?_)
    subst hi
    have hcs : cntS (wTu s) (q + 1) = cntS (wTu s) q + (if wTu s q = -1 then 0 else 1) := rfl
    refine g_iload2 dX6_rests_4 ?_
    refine g_aload0 dX6_rests_5 ?_
    refine f_getr (r := 93) rfl (by decide) rfl rfl fl_X6_7 dX6_rests_6 ?_
    try rw [hs]
    refine g_bipush dX6_rests_9 (by decide) ?_
    refine f_iald rfl (by decide) ⟨by omega, by show _ < ((67 : Nat) : Int); omega⟩ dX6_rests_11 ?_
    try rw [hs]
    rw [hnI]
    refine g_icmp_ge ⟨by omega, by omega⟩ ⟨by omega, by omega⟩ (tgt := 37) dX6_rests_12 rfl (fun h12 => ?_) (fun h12 => ?_)
    · refine g_iload1 dX6_rests_37 ?_
      refine g_iretI rfl dX6_rests_38 ?_
      have e9 : q = wN s := by omega
      subst e9
      exact Fw.ret hx
    · refine g_iload1 dX6_rests_15 ?_
      refine g_aload0 dX6_rests_16 ?_
      refine g_iload2 dX6_rests_17 ?_
      refine f_cV1w (isNoted_m ho hs (k := q) (by omega)) rfl (by decide) rfl oY_X6_isNoted oI_X6_isNoted lk_X6_152 rfl dX6_rests_18 rfl (Or.inl rfl) ?_
      refine g_ifeqB (tgt := 28) dX6_rests_21 rfl (fun h21 => ?_) (fun h21 => ?_)
      · refine g_iconst dX6_rests_28 ?_
        refine g_iadd dX6_rests_29 ?_
        refine g_istore1 dX6_rests_30 rfl (by decide) ?_
        refine g_iinc2 dX6_rests_31 rfl (by decide) ?_
        refine g_goto (tgt := 4) dX6_rests_34 rfl ?_
        first
          | (have y := h21.2
             exact ih (by omega) _ _ (by omega) (by rw [hcs, if_neg y]; omega))
          | (have y : wTu s q = -1 := Classical.byContradiction (fun z => h21 ⟨by omega, z⟩)
             exact ih (by omega) _ _ (by omega) (by rw [hcs, if_pos y]; omega))
      · refine g_iconst dX6_rests_24 ?_
        refine g_goto (tgt := 29) dX6_rests_25 rfl ?_
        refine g_iadd dX6_rests_29 ?_
        refine g_istore1 dX6_rests_30 rfl (by decide) ?_
        refine g_iinc2 dX6_rests_31 rfl (by decide) ?_
        refine g_goto (tgt := 4) dX6_rests_34 rfl ?_
        first
          | (have y := h21.2
             exact ih (by omega) _ _ (by omega) (by rw [hcs, if_neg y]; omega))
          | (have y : wTu s q = -1 := Classical.byContradiction (fun z => h21 ⟨by omega, z⟩)
             exact ih (by omega) _ _ (by omega) (by rw [hcs, if_pos y]; omega))
  refine g_iconst dX6_rests_0 ?_
  refine g_istore1 dX6_rests_1 rfl (by decide) ?_
  refine g_iconst dX6_rests_2 ?_
  refine g_istore2 dX6_rests_3 rfl (by decide) ?_
  exact loop 0 (Nat.zero_le _) _ _ rfl rfl
theorem size_q {B : Int} {s : Int → Int} (ho : SOK B s) (hs : σ 93 = s) {w k : Int} (h : 0 ≤ w ∧ w ≤ 15) (hk : σ 92 5 = k) : Fo g zX6_size [.ref 92, iv w] σ l (iv (wSz16 s k w)) 0 := by
  have hs0 : up σ 92 6 0 93 = s := (up_n (by decide)).trans hs
  have hM0 : Md σ (up σ 92 6 0) := md_th (Md.refl σ)
  have he0 : up σ 92 6 0 92 6 = 0 := up_eq
  have hp3 := p3_le ho.h7
  have hp0 := p3_pos (wH s)
  have hn40 := ho.n40
  have hnI := ho.nI
  have hH7 := ho.h7
  have hHI := ho.hI
  have hb4 := ho.halves
  have hb5 := ho.crosses
  have h1 := isIn_ok (g := g) (σ := σ) (l := l) (x := w) (a := 0) (b := 15) (by omega) (by decide) (by decide)
  rw [bvT h] at h1
  have hk5 : up σ 92 6 0 92 5 = k := (up_ne (fun z => by omega)).trans hk
  have hpl := ho.play
  refine Fn.of [some (.ref 92), some (iv w)] rfl (by decide) (Nat.le_of_ble_eq_true rfl) rfl ?_
  by_cases e : w = 10
  · subst e
    refine g_aload0 dX6_size_0 ?_
    refine g_iload1 dX6_size_1 ?_
    refine g_i2l ⟨by omega, by omega⟩ dX6_size_2 ?_
    refine g_lconst0 dX6_size_3 ?_
    refine g_ldc2 (v := Int64.ofInt (15)) kl_X6_283 dX6_size_4 ?_
    refine f_cS3w (h1) oY_X6_isIn oT_X6_isIn lk_X6_83 rfl dX6_size_7 rfl (Or.inl rfl) ?_
    refine g_iconst dX6_size_10 ?_
    refine f_cV2x (passes_11) rfl (by decide) rfl oY_X6_passes oI_X6_passes lk_X6_285 rfl dX6_size_11 rfl (Or.inl rfl) ?_
    refine g_if_ne ⟨by decide, by decide⟩ (tgt := 19) dX6_size_14 rfl (fun h14 => ?_) (fun h14 => absurd h14 (by decide))
    refine g_iload1 dX6_size_19 ?_
    refine g_tabIn (tgt := 60) (off := 40) ⟨by omega, by omega⟩ (by omega) (by omega) dX6_size_20 rfl rfl ?_
    refine g_aload0 dX6_size_60 ?_
    refine f_cV0w (rests_m ho hs0) rfl (by decide) rfl oY_X6_rests oI_X6_rests lk_X6_289 rfl dX6_size_61 rfl (Or.inl rfl) ?_
    refine g_iretI rfl dX6_size_64 ?_
    exact Fo.ret (by unfold wSz16; rw [if_pos rfl, hnI]) hM0 he0
  by_cases e : w = 11
  · subst e
    refine g_aload0 dX6_size_0 ?_
    refine g_iload1 dX6_size_1 ?_
    refine g_i2l ⟨by omega, by omega⟩ dX6_size_2 ?_
    refine g_lconst0 dX6_size_3 ?_
    refine g_ldc2 (v := Int64.ofInt (15)) kl_X6_283 dX6_size_4 ?_
    refine f_cS3w (h1) oY_X6_isIn oT_X6_isIn lk_X6_83 rfl dX6_size_7 rfl (Or.inl rfl) ?_
    refine g_iconst dX6_size_10 ?_
    refine f_cV2x (passes_11) rfl (by decide) rfl oY_X6_passes oI_X6_passes lk_X6_285 rfl dX6_size_11 rfl (Or.inl rfl) ?_
    refine g_if_ne ⟨by decide, by decide⟩ (tgt := 19) dX6_size_14 rfl (fun h14 => ?_) (fun h14 => absurd h14 (by decide))
    refine g_iload1 dX6_size_19 ?_
    refine g_tabIn (tgt := 65) (off := 45) ⟨by omega, by omega⟩ (by omega) (by omega) dX6_size_20 rfl rfl ?_
    refine g_aload0 dX6_size_65 ?_
    refine f_cV0w (many_ok ho hs0) rfl (by decide) rfl oY_X6_many oI_X6_many lk_X6_80 rfl dX6_size_66 rfl (Or.inl rfl) ?_
    refine g_iretI rfl dX6_size_69 ?_
    exact Fo.ret (by unfold wSz16; rw [if_neg (by omega), if_pos rfl]) hM0 he0
  by_cases e : w = 12
  · subst e
    refine g_aload0 dX6_size_0 ?_
    refine g_iload1 dX6_size_1 ?_
    refine g_i2l ⟨by omega, by omega⟩ dX6_size_2 ?_
    refine g_lconst0 dX6_size_3 ?_
    refine g_ldc2 (v := Int64.ofInt (15)) kl_X6_283 dX6_size_4 ?_
    refine f_cS3w (h1) oY_X6_isIn oT_X6_isIn lk_X6_83 rfl dX6_size_7 rfl (Or.inl rfl) ?_
    refine g_iconst dX6_size_10 ?_
    refine f_cV2x (passes_11) rfl (by decide) rfl oY_X6_passes oI_X6_passes lk_X6_285 rfl dX6_size_11 rfl (Or.inl rfl) ?_
    refine g_if_ne ⟨by decide, by decide⟩ (tgt := 19) dX6_size_14 rfl (fun h14 => ?_) (fun h14 => absurd h14 (by decide))
    refine g_iload1 dX6_size_19 ?_
    refine g_tabIn (tgt := 70) (off := 50) ⟨by omega, by omega⟩ (by omega) (by omega) dX6_size_20 rfl rfl ?_
    refine g_aload0 dX6_size_70 ?_
    refine f_getr (r := 93) rfl (by decide) rfl rfl fl_X6_7 dX6_size_71 ?_
    try rw [hs0]; try rw [hk5]
    refine g_bipush dX6_size_74 (by decide) ?_
    refine f_iald rfl (by decide) ⟨by omega, by show _ < ((67 : Nat) : Int); omega⟩ dX6_size_76 ?_
    try rw [hs0]; try rw [hk5]
    refine g_iretI rfl dX6_size_77 ?_
    exact Fo.ret (by unfold wSz16; rw [if_neg (by omega), if_neg (by omega), if_pos rfl]) hM0 he0
  by_cases e : w = 13
  · subst e
    refine g_aload0 dX6_size_0 ?_
    refine g_iload1 dX6_size_1 ?_
    refine g_i2l ⟨by omega, by omega⟩ dX6_size_2 ?_
    refine g_lconst0 dX6_size_3 ?_
    refine g_ldc2 (v := Int64.ofInt (15)) kl_X6_283 dX6_size_4 ?_
    refine f_cS3w (h1) oY_X6_isIn oT_X6_isIn lk_X6_83 rfl dX6_size_7 rfl (Or.inl rfl) ?_
    refine g_iconst dX6_size_10 ?_
    refine f_cV2x (passes_11) rfl (by decide) rfl oY_X6_passes oI_X6_passes lk_X6_285 rfl dX6_size_11 rfl (Or.inl rfl) ?_
    refine g_if_ne ⟨by decide, by decide⟩ (tgt := 19) dX6_size_14 rfl (fun h14 => ?_) (fun h14 => absurd h14 (by decide))
    refine g_iload1 dX6_size_19 ?_
    refine g_tabIn (tgt := 78) (off := 58) ⟨by omega, by omega⟩ (by omega) (by omega) dX6_size_20 rfl rfl ?_
    refine g_aload0 dX6_size_78 ?_
    refine f_getr (r := 93) rfl (by decide) rfl rfl fl_X6_7 dX6_size_79 ?_
    try rw [hs0]; try rw [hk5]
    refine g_bipush dX6_size_82 (by decide) ?_
    refine f_iald rfl (by decide) ⟨by omega, by show _ < ((67 : Nat) : Int); omega⟩ dX6_size_84 ?_
    try rw [hs0]; try rw [hk5]
    refine g_iretI rfl dX6_size_85 ?_
    exact Fo.ret (by unfold wSz16; rw [if_neg (by omega), if_neg (by omega), if_neg (by omega), if_pos rfl]) hM0 he0
  by_cases e : w = 14
  · subst e
    refine g_aload0 dX6_size_0 ?_
    refine g_iload1 dX6_size_1 ?_
    refine g_i2l ⟨by omega, by omega⟩ dX6_size_2 ?_
    refine g_lconst0 dX6_size_3 ?_
    refine g_ldc2 (v := Int64.ofInt (15)) kl_X6_283 dX6_size_4 ?_
    refine f_cS3w (h1) oY_X6_isIn oT_X6_isIn lk_X6_83 rfl dX6_size_7 rfl (Or.inl rfl) ?_
    refine g_iconst dX6_size_10 ?_
    refine f_cV2x (passes_11) rfl (by decide) rfl oY_X6_passes oI_X6_passes lk_X6_285 rfl dX6_size_11 rfl (Or.inl rfl) ?_
    refine g_if_ne ⟨by decide, by decide⟩ (tgt := 19) dX6_size_14 rfl (fun h14 => ?_) (fun h14 => absurd h14 (by decide))
    refine g_iload1 dX6_size_19 ?_
    refine g_tabIn (tgt := 86) (off := 66) ⟨by omega, by omega⟩ (by omega) (by omega) dX6_size_20 rfl rfl ?_
    refine g_aload0 dX6_size_86 ?_
    refine f_getr (r := 93) rfl (by decide) rfl rfl fl_X6_7 dX6_size_87 ?_
    try rw [hs0]; try rw [hk5]
    refine g_bipush dX6_size_90 (by decide) ?_
    refine f_iald rfl (by decide) ⟨by omega, by show _ < ((67 : Nat) : Int); omega⟩ dX6_size_92 ?_
    try rw [hs0]; try rw [hk5]
    refine g_iretI rfl dX6_size_93 ?_
    exact Fo.ret (by unfold wSz16; rw [if_neg (by omega), if_neg (by omega), if_neg (by omega), if_neg (by omega), if_pos rfl]) hM0 he0
  by_cases e : w = 15
  · subst e
    refine g_aload0 dX6_size_0 ?_
    refine g_iload1 dX6_size_1 ?_
    refine g_i2l ⟨by omega, by omega⟩ dX6_size_2 ?_
    refine g_lconst0 dX6_size_3 ?_
    refine g_ldc2 (v := Int64.ofInt (15)) kl_X6_283 dX6_size_4 ?_
    refine f_cS3w (h1) oY_X6_isIn oT_X6_isIn lk_X6_83 rfl dX6_size_7 rfl (Or.inl rfl) ?_
    refine g_iconst dX6_size_10 ?_
    refine f_cV2x (passes_11) rfl (by decide) rfl oY_X6_passes oI_X6_passes lk_X6_285 rfl dX6_size_11 rfl (Or.inl rfl) ?_
    refine g_if_ne ⟨by decide, by decide⟩ (tgt := 19) dX6_size_14 rfl (fun h14 => ?_) (fun h14 => absurd h14 (by decide))
    refine g_iload1 dX6_size_19 ?_
    refine g_tabIn (tgt := 94) (off := 74) ⟨by omega, by omega⟩ (by omega) (by omega) dX6_size_20 rfl rfl ?_
    refine g_aload0 dX6_size_94 ?_
    refine f_geti (J := 5) rfl (by decide) rfl rfl fl_X6_69 dX6_size_95 ?_
    try rw [hs0]; try rw [hk5]
    refine g_iretI rfl dX6_size_98 ?_
    exact Fo.ret (by unfold wSz16; rw [if_neg (by omega), if_neg (by omega), if_neg (by omega), if_neg (by omega), if_neg (by omega), if_pos rfl]; exact congrArg iv hk5) hM0 he0
  · refine g_aload0 dX6_size_0 ?_
    refine g_iload1 dX6_size_1 ?_
    refine g_i2l ⟨by omega, by omega⟩ dX6_size_2 ?_
    refine g_lconst0 dX6_size_3 ?_
    refine g_ldc2 (v := Int64.ofInt (15)) kl_X6_283 dX6_size_4 ?_
    refine f_cS3w (h1) oY_X6_isIn oT_X6_isIn lk_X6_83 rfl dX6_size_7 rfl (Or.inl rfl) ?_
    refine g_iconst dX6_size_10 ?_
    refine f_cV2x (passes_11) rfl (by decide) rfl oY_X6_passes oI_X6_passes lk_X6_285 rfl dX6_size_11 rfl (Or.inl rfl) ?_
    refine g_if_ne ⟨by decide, by decide⟩ (tgt := 19) dX6_size_14 rfl (fun h14 => ?_) (fun h14 => absurd h14 (by decide))
    refine g_iload1 dX6_size_19 ?_
    refine g_tabOut (tgt := 99) ⟨by omega, by omega⟩ (by omega) dX6_size_20 rfl ?_
    refine g_aload0 dX6_size_99 ?_
    refine f_getr (r := 93) rfl (by decide) rfl rfl fl_X6_7 dX6_size_100 ?_
    try rw [hs0]; try rw [hk5]
    refine g_iload1 dX6_size_103 ?_
    refine f_iald rfl (by decide) ⟨by omega, by show _ < ((67 : Nat) : Int); omega⟩ dX6_size_104 ?_
    try rw [hs0]; try rw [hk5]
    refine g_iretI rfl dX6_size_105 ?_
    exact Fo.ret (by unfold wSz16; rw [if_neg (by omega), if_neg (by omega), if_neg (by omega), if_neg (by omega), if_neg (by omega), if_neg (by omega)]) hM0 he0
theorem size_r {B : Int} {s : Int → Int} (ho : SOK B s) (hs : σ 93 = s) {w : Int} (hx : R32 w) (h : ¬ (0 ≤ w ∧ w ≤ 15)) : Fo g zX6_size [.ref 92, iv w] σ l (iv 0) 1 := by
  have hs0 : up σ 92 6 0 93 = s := (up_n (by decide)).trans hs
  have hM0 : Md σ (up σ 92 6 0) := md_th (Md.refl σ)
  have he0 : up σ 92 6 0 92 6 = 0 := up_eq
  have hp3 := p3_le ho.h7
  have hp0 := p3_pos (wH s)
  have hn40 := ho.n40
  have hnI := ho.nI
  have hH7 := ho.h7
  have hHI := ho.hI
  have hb4 := ho.halves
  have hb5 := ho.crosses
  have h1 := isIn_ok (g := g) (σ := σ) (l := l) (x := w) (a := 0) (b := 15) (by omega) (by decide) (by decide)
  rw [bvF h] at h1
  refine Fn.of [some (.ref 92), some (iv w)] rfl (by decide) (Nat.le_of_ble_eq_true rfl) rfl ?_
  refine g_aload0 dX6_size_0 ?_
  refine g_iload1 dX6_size_1 ?_
  refine g_i2l ⟨by omega, by omega⟩ dX6_size_2 ?_
  refine g_lconst0 dX6_size_3 ?_
  refine g_ldc2 (v := Int64.ofInt (15)) kl_X6_283 dX6_size_4 ?_
  refine f_cS3w (h1) oY_X6_isIn oT_X6_isIn lk_X6_83 rfl dX6_size_7 rfl (Or.inl rfl) ?_
  refine g_iconst dX6_size_10 ?_
  refine f_cV2x (passes_01) rfl (by decide) rfl oY_X6_passes oI_X6_passes lk_X6_285 rfl dX6_size_11 rfl (Or.inl rfl) ?_
  refine g_if_ne ⟨by decide, by decide⟩ (tgt := 19) dX6_size_14 rfl (fun h14 => absurd h14 (by decide)) (fun h14 => ?_)
  refine g_iconst dX6_size_17 ?_
  refine g_iretI rfl dX6_size_18 ?_
  exact Fo.ret rfl (md_th (Md.refl σ)) up_eq
theorem passes_0 {Q : Prop} [Decidable Q] : FX g zX6_passes [.ref 92, iv 0, bv Q] σ l (iv 0) (up σ 92 6 1) := by
  by_cases c : Q
  · rw [bvT c]; exact passes_01
  · rw [bvF c]; exact passes_00
theorem hole_q {B : Int} {s : Int → Int} (ho : SOK B s) (hs : σ 93 = s) {n : Nat} {w : Int} (hw : R32 w) (h : n < wH s) (h2 : 0 ≤ w ∧ w ≤ 2) : Fo g zX6_hole [.ref 92, iv (n : Int), iv w] σ l (iv (if w = 0 then wPl s (n : Int) else if w = 1 then wSz s (n : Int) else covC (s 10) (n : Int))) 0 := by
  have hs0 : up σ 92 6 0 93 = s := (up_n (by decide)).trans hs
  have hM0 : Md σ (up σ 92 6 0) := md_th (Md.refl σ)
  have he0 : up σ 92 6 0 92 6 = 0 := up_eq
  have hp3 := p3_le ho.h7
  have hp0 := p3_pos (wH s)
  have hn40 := ho.n40
  have hnI := ho.nI
  have hH7 := ho.h7
  have hHI := ho.hI
  have hb4 := ho.halves
  have hb5 := ho.crosses
  have h1 := isHole_ok (g := g) (l := l) ho hs (x := (n : Int)) (by omega)
  rw [bvT (by omega)] at h1
  have h3 := isIn_ok (g := g) (σ := σ) (l := l) (x := w) (a := 0) (b := 2) (by omega) (by decide) (by decide)
  rw [bvT h2] at h3
  have hpl := ho.play
  refine Fn.of [some (.ref 92), some (iv (n : Int)), some (iv w)] rfl (by decide) (Nat.le_of_ble_eq_true rfl) rfl ?_
  refine g_aload0 dX6_hole_0 ?_
  refine g_aload0 dX6_hole_1 ?_
  refine g_iload1 dX6_hole_2 ?_
  refine f_cV1w (h1) rfl (by decide) rfl oY_X6_isHole oI_X6_isHole lk_X6_292 rfl dX6_hole_3 rfl (Or.inl rfl) ?_
  refine g_iload2 dX6_hole_6 ?_
  refine g_i2l ⟨by omega, by omega⟩ dX6_hole_7 ?_
  refine g_lconst0 dX6_hole_8 ?_
  refine g_ldc2 (v := Int64.ofInt (2)) kl_X6_295 dX6_hole_9 ?_
  refine f_cS3w (h3) oY_X6_isIn oT_X6_isIn lk_X6_83 rfl dX6_hole_12 rfl (Or.inl rfl) ?_
  refine f_cV2x (passes_11) rfl (by decide) rfl oY_X6_passes oI_X6_passes lk_X6_285 rfl dX6_hole_15 rfl (Or.inl rfl) ?_
  refine g_if_ne ⟨by decide, by decide⟩ (tgt := 23) dX6_hole_18 rfl (fun h18 => ?_) (fun h18 => absurd h18 (by decide))
  refine g_iload2 dX6_hole_23 ?_
  refine g_if_ne ⟨by omega, by omega⟩ (tgt := 35) dX6_hole_24 rfl (fun h24 => ?_) (fun h24 => ?_)
  · refine g_iload2 dX6_hole_35 ?_
    refine g_iconst dX6_hole_36 ?_
    refine g_icmp_ne ⟨by omega, by omega⟩ ⟨by omega, by omega⟩ (tgt := 48) dX6_hole_37 rfl (fun h37 => ?_) (fun h37 => ?_)
    · refine g_aload0 dX6_hole_48 ?_
      refine g_aload0 dX6_hole_49 ?_
      refine f_getr (r := 93) rfl (by decide) rfl rfl fl_X6_7 dX6_hole_50 ?_
      try rw [hs0]
      refine g_bipush dX6_hole_53 (by decide) ?_
      refine f_iald rfl (by decide) ⟨by omega, by show _ < ((67 : Nat) : Int); omega⟩ dX6_hole_55 ?_
      try rw [hs0]
      refine g_iload1 dX6_hole_56 ?_
      refine f_cV2w (cover_m (k := n) (by omega) (by omega)) rfl (by decide) rfl oY_X6_coverOf oI_X6_coverOf lk_X6_90 rfl dX6_hole_57 rfl (Or.inl rfl) ?_
      refine g_iretI rfl dX6_hole_60 ?_
      first
        | exact Fo.ret (by rw [if_pos (by omega)]) hM0 he0
        | exact Fo.ret (by rw [if_neg (by omega), if_pos (by omega)]) hM0 he0
        | exact Fo.ret (by rw [if_neg (by omega), if_neg (by omega), covC_d (by omega)]) hM0 he0
    · refine g_aload0 dX6_hole_40 ?_
      refine g_iload1 dX6_hole_41 ?_
      refine f_cV1w (sizeOf_ok hs0 (k := n) (by omega)) rfl (by decide) rfl oY_X6_sizeOf oI_X6_sizeOf lk_X6_94 rfl dX6_hole_42 rfl (Or.inl rfl) ?_
      refine g_goto (tgt := 60) dX6_hole_45 rfl ?_
      refine g_iretI rfl dX6_hole_60 ?_
      first
        | exact Fo.ret (by rw [if_pos (by omega)]) hM0 he0
        | exact Fo.ret (by rw [if_neg (by omega), if_pos (by omega)]) hM0 he0
        | exact Fo.ret (by rw [if_neg (by omega), if_neg (by omega), covC_d (by omega)]) hM0 he0
  · refine g_aload0 dX6_hole_27 ?_
    refine g_iload1 dX6_hole_28 ?_
    refine f_cV1w (placeOf_ok hs0 (k := n) (by omega)) rfl (by decide) rfl oY_X6_placeOf oI_X6_placeOf lk_X6_98 rfl dX6_hole_29 rfl (Or.inl rfl) ?_
    refine g_goto (tgt := 60) dX6_hole_32 rfl ?_
    refine g_iretI rfl dX6_hole_60 ?_
    first
      | exact Fo.ret (by rw [if_pos (by omega)]) hM0 he0
      | exact Fo.ret (by rw [if_neg (by omega), if_pos (by omega)]) hM0 he0
      | exact Fo.ret (by rw [if_neg (by omega), if_neg (by omega), covC_d (by omega)]) hM0 he0
theorem hole_r1 {B : Int} {s : Int → Int} (ho : SOK B s) (hs : σ 93 = s) {x w : Int} (hx : R32 x) (hw : R32 w) (h : ¬ (0 ≤ x ∧ x < s 3)) : Fo g zX6_hole [.ref 92, iv x, iv w] σ l (iv 0) 1 := by
  have hs0 : up σ 92 6 0 93 = s := (up_n (by decide)).trans hs
  have hM0 : Md σ (up σ 92 6 0) := md_th (Md.refl σ)
  have he0 : up σ 92 6 0 92 6 = 0 := up_eq
  have hp3 := p3_le ho.h7
  have hp0 := p3_pos (wH s)
  have hn40 := ho.n40
  have hnI := ho.nI
  have hH7 := ho.h7
  have hHI := ho.hI
  have hb4 := ho.halves
  have hb5 := ho.crosses
  have h1 := isHole_ok (g := g) (l := l) ho hs (x := x) hx
  rw [bvF h] at h1
  refine Fn.of [some (.ref 92), some (iv x), some (iv w)] rfl (by decide) (Nat.le_of_ble_eq_true rfl) rfl ?_
  refine g_aload0 dX6_hole_0 ?_
  refine g_aload0 dX6_hole_1 ?_
  refine g_iload1 dX6_hole_2 ?_
  refine f_cV1w (h1) rfl (by decide) rfl oY_X6_isHole oI_X6_isHole lk_X6_292 rfl dX6_hole_3 rfl (Or.inl rfl) ?_
  refine g_iload2 dX6_hole_6 ?_
  refine g_i2l ⟨by omega, by omega⟩ dX6_hole_7 ?_
  refine g_lconst0 dX6_hole_8 ?_
  refine g_ldc2 (v := Int64.ofInt (2)) kl_X6_295 dX6_hole_9 ?_
  refine f_cS3w (isIn_ok (by omega) (by decide) (by decide)) oY_X6_isIn oT_X6_isIn lk_X6_83 rfl dX6_hole_12 rfl (Or.inl rfl) ?_
  refine f_cV2x (passes_0) rfl (by decide) rfl oY_X6_passes oI_X6_passes lk_X6_285 rfl dX6_hole_15 rfl (Or.inl rfl) ?_
  refine g_if_ne ⟨by decide, by decide⟩ (tgt := 23) dX6_hole_18 rfl (fun h18 => absurd h18 (by decide)) (fun h18 => ?_)
  refine g_iconst dX6_hole_21 ?_
  refine g_iretI rfl dX6_hole_22 ?_
  exact Fo.ret rfl (md_th (Md.refl σ)) up_eq
theorem hole_r2 {B : Int} {s : Int → Int} (ho : SOK B s) (hs : σ 93 = s) {x w : Int} (hx : R32 x) (hw : R32 w) (h : 0 ≤ x ∧ x < s 3) (h2 : ¬ (0 ≤ w ∧ w ≤ 2)) : Fo g zX6_hole [.ref 92, iv x, iv w] σ l (iv 0) 2 := by
  have hs0 : up σ 92 6 0 93 = s := (up_n (by decide)).trans hs
  have hM0 : Md σ (up σ 92 6 0) := md_th (Md.refl σ)
  have he0 : up σ 92 6 0 92 6 = 0 := up_eq
  have hp3 := p3_le ho.h7
  have hp0 := p3_pos (wH s)
  have hn40 := ho.n40
  have hnI := ho.nI
  have hH7 := ho.h7
  have hHI := ho.hI
  have hb4 := ho.halves
  have hb5 := ho.crosses
  have h1 := isHole_ok (g := g) (l := l) ho hs (x := x) hx
  rw [bvT h] at h1
  have h3 := isIn_ok (g := g) (σ := σ) (l := l) (x := w) (a := 0) (b := 2) (by omega) (by decide) (by decide)
  rw [bvF h2] at h3
  refine Fn.of [some (.ref 92), some (iv x), some (iv w)] rfl (by decide) (Nat.le_of_ble_eq_true rfl) rfl ?_
  refine g_aload0 dX6_hole_0 ?_
  refine g_aload0 dX6_hole_1 ?_
  refine g_iload1 dX6_hole_2 ?_
  refine f_cV1w (h1) rfl (by decide) rfl oY_X6_isHole oI_X6_isHole lk_X6_292 rfl dX6_hole_3 rfl (Or.inl rfl) ?_
  refine g_iload2 dX6_hole_6 ?_
  refine g_i2l ⟨by omega, by omega⟩ dX6_hole_7 ?_
  refine g_lconst0 dX6_hole_8 ?_
  refine g_ldc2 (v := Int64.ofInt (2)) kl_X6_295 dX6_hole_9 ?_
  refine f_cS3w (h3) oY_X6_isIn oT_X6_isIn lk_X6_83 rfl dX6_hole_12 rfl (Or.inl rfl) ?_
  refine f_cV2x (passes_10) rfl (by decide) rfl oY_X6_passes oI_X6_passes lk_X6_285 rfl dX6_hole_15 rfl (Or.inl rfl) ?_
  refine g_if_ne ⟨by decide, by decide⟩ (tgt := 23) dX6_hole_18 rfl (fun h18 => absurd h18 (by decide)) (fun h18 => ?_)
  refine g_iconst dX6_hole_21 ?_
  refine g_iretI rfl dX6_hole_22 ?_
  exact Fo.ret rfl (md_th (Md.refl σ)) up_eq
theorem covered_q {B : Int} {s : Int → Int} (ho : SOK B s) (hs : σ 93 = s) {p : Int} {n : Nat} (h : 0 ≤ p ∧ p < (2 * ((3 ^ wH s : Nat) : Int))) (h2n : n < wH s) : Fo g zX6_covered [.ref 92, iv p, iv (n : Int)] σ l (iv (covC p (n : Int))) 0 := by
  have hs0 : up σ 92 6 0 93 = s := (up_n (by decide)).trans hs
  have hM0 : Md σ (up σ 92 6 0) := md_th (Md.refl σ)
  have he0 : up σ 92 6 0 92 6 = 0 := up_eq
  have hp3 := p3_le ho.h7
  have hp0 := p3_pos (wH s)
  have hn40 := ho.n40
  have hnI := ho.nI
  have hH7 := ho.h7
  have hHI := ho.hI
  have hb4 := ho.halves
  have hb5 := ho.crosses
  have h1 := isPlay_ok (g := g) (l := l) ho hs (p := p) (by omega)
  have h2 := isHole_ok (g := g) (l := l) ho hs (x := (n : Int)) (by omega)
  rw [bvT h] at h1
  rw [bvT (by omega)] at h2
  refine Fn.of [some (.ref 92), some (iv p), some (iv (n : Int))] rfl (by decide) (Nat.le_of_ble_eq_true rfl) rfl ?_
  refine g_aload0 dX6_covered_0 ?_
  refine g_aload0 dX6_covered_1 ?_
  refine g_iload1 dX6_covered_2 ?_
  refine f_cV1w (h1) rfl (by decide) rfl oY_X6_isPlay oI_X6_isPlay lk_X6_297 rfl dX6_covered_3 rfl (Or.inl rfl) ?_
  refine g_if_eq ⟨by decide, by decide⟩ (tgt := 21) dX6_covered_6 rfl (fun h6 => absurd h6 (by decide)) (fun h6 => ?_)
  refine g_aload0 dX6_covered_9 ?_
  refine g_iload2 dX6_covered_10 ?_
  refine f_cV1w (h2) rfl (by decide) rfl oY_X6_isHole oI_X6_isHole lk_X6_292 rfl dX6_covered_11 rfl (Or.inl rfl) ?_
  refine g_if_eq ⟨by decide, by decide⟩ (tgt := 21) dX6_covered_14 rfl (fun h14 => absurd h14 (by decide)) (fun h14 => ?_)
  refine g_iconst dX6_covered_17 ?_
  refine g_goto (tgt := 22) dX6_covered_18 rfl ?_
  refine g_iconst dX6_covered_22 ?_
  refine f_cV2x (passes_11) rfl (by decide) rfl oY_X6_passes oI_X6_passes lk_X6_285 rfl dX6_covered_23 rfl (Or.inl rfl) ?_
  refine g_if_eq ⟨by decide, by decide⟩ (tgt := 38) dX6_covered_26 rfl (fun h26 => absurd h26 (by decide)) (fun h26 => ?_)
  refine g_aload0 dX6_covered_29 ?_
  refine g_iload1 dX6_covered_30 ?_
  refine g_iload2 dX6_covered_31 ?_
  refine f_cV2w (cover_m (k := n) (by omega) (by omega)) rfl (by decide) rfl oY_X6_coverOf oI_X6_coverOf lk_X6_90 rfl dX6_covered_32 rfl (Or.inl rfl) ?_
  refine g_goto (tgt := 39) dX6_covered_35 rfl ?_
  refine g_iretI rfl dX6_covered_39 ?_
  exact Fo.ret (by rw [covC_d (by omega)]) hM0 he0
theorem covered_r {B : Int} {s : Int → Int} (ho : SOK B s) (hs : σ 93 = s) {p x : Int} (hx : R32 p) (hy : R32 x) (h : ¬ ((0 ≤ p ∧ p < (2 * ((3 ^ wH s : Nat) : Int))) ∧ 0 ≤ x ∧ x < s 3)) : Fo g zX6_covered [.ref 92, iv p, iv x] σ l (iv 0) 1 := by
  have hs0 : up σ 92 6 0 93 = s := (up_n (by decide)).trans hs
  have hM0 : Md σ (up σ 92 6 0) := md_th (Md.refl σ)
  have he0 : up σ 92 6 0 92 6 = 0 := up_eq
  have hp3 := p3_le ho.h7
  have hp0 := p3_pos (wH s)
  have hn40 := ho.n40
  have hnI := ho.nI
  have hH7 := ho.h7
  have hHI := ho.hI
  have hb4 := ho.halves
  have hb5 := ho.crosses
  have h1 := isPlay_ok (g := g) (l := l) ho hs hx
  have h2 := isHole_ok (g := g) (l := l) ho hs hy
  refine Fn.of [some (.ref 92), some (iv p), some (iv x)] rfl (by decide) (Nat.le_of_ble_eq_true rfl) rfl ?_
  by_cases c1 : 0 ≤ p ∧ p < (2 * ((3 ^ wH s : Nat) : Int))
  · rw [bvT c1] at h1
    rw [bvF (fun z => h ⟨c1, z⟩)] at h2
    refine g_aload0 dX6_covered_0 ?_
    refine g_aload0 dX6_covered_1 ?_
    refine g_iload1 dX6_covered_2 ?_
    refine f_cV1w (h1) rfl (by decide) rfl oY_X6_isPlay oI_X6_isPlay lk_X6_297 rfl dX6_covered_3 rfl (Or.inl rfl) ?_
    refine g_if_eq ⟨by decide, by decide⟩ (tgt := 21) dX6_covered_6 rfl (fun h6 => absurd h6 (by decide)) (fun h6 => ?_)
    refine g_aload0 dX6_covered_9 ?_
    refine g_iload2 dX6_covered_10 ?_
    refine f_cV1w (h2) rfl (by decide) rfl oY_X6_isHole oI_X6_isHole lk_X6_292 rfl dX6_covered_11 rfl (Or.inl rfl) ?_
    refine g_if_eq ⟨by decide, by decide⟩ (tgt := 21) dX6_covered_14 rfl (fun h14 => ?_) (fun h14 => absurd h14 (by decide))
    refine g_iconst dX6_covered_21 ?_
    refine g_iconst dX6_covered_22 ?_
    refine f_cV2x (passes_01) rfl (by decide) rfl oY_X6_passes oI_X6_passes lk_X6_285 rfl dX6_covered_23 rfl (Or.inl rfl) ?_
    refine g_if_eq ⟨by decide, by decide⟩ (tgt := 38) dX6_covered_26 rfl (fun h26 => ?_) (fun h26 => absurd h26 (by decide))
    refine g_iconst dX6_covered_38 ?_
    refine g_iretI rfl dX6_covered_39 ?_
    exact Fo.ret rfl (md_th (Md.refl σ)) up_eq
  · rw [bvF c1] at h1
    refine g_aload0 dX6_covered_0 ?_
    refine g_aload0 dX6_covered_1 ?_
    refine g_iload1 dX6_covered_2 ?_
    refine f_cV1w (h1) rfl (by decide) rfl oY_X6_isPlay oI_X6_isPlay lk_X6_297 rfl dX6_covered_3 rfl (Or.inl rfl) ?_
    refine g_if_eq ⟨by decide, by decide⟩ (tgt := 21) dX6_covered_6 rfl (fun h6 => ?_) (fun h6 => absurd h6 (by decide))
    refine g_iconst dX6_covered_21 ?_
    refine g_iconst dX6_covered_22 ?_
    refine f_cV2x (passes_01) rfl (by decide) rfl oY_X6_passes oI_X6_passes lk_X6_285 rfl dX6_covered_23 rfl (Or.inl rfl) ?_
    refine g_if_eq ⟨by decide, by decide⟩ (tgt := 38) dX6_covered_26 rfl (fun h26 => ?_) (fun h26 => absurd h26 (by decide))
    refine g_iconst dX6_covered_38 ?_
    refine g_iretI rfl dX6_covered_39 ?_
    exact Fo.ret rfl (md_th (Md.refl σ)) up_eq
theorem cost_q {B : Int} {s : Int → Int} (ho : SOK B s) (hs : σ 93 = s)  : Fo g zX6_cost [.ref 92] σ l (iv (wTot s)) 0 := by
  have hs0 : up σ 92 6 0 93 = s := (up_n (by decide)).trans hs
  have hM0 : Md σ (up σ 92 6 0) := md_th (Md.refl σ)
  have he0 : up σ 92 6 0 92 6 = 0 := up_eq
  have hp3 := p3_le ho.h7
  have hp0 := p3_pos (wH s)
  have hn40 := ho.n40
  have hnI := ho.nI
  have hH7 := ho.h7
  have hHI := ho.hI
  have hb4 := ho.halves
  have hb5 := ho.crosses
  refine Fn.of [some (.ref 92)] rfl (by decide) (Nat.le_of_ble_eq_true rfl) rfl ?_
  refine g_aload0 dX6_cost_0 ?_
  refine g_iconst dX6_cost_1 ?_
  refine f_puti (J := 6) rfl (by decide) rfl rfl fl_X6_66 rfl (fun _ _ _ h => by cases h; rfl) dX6_cost_2 ?_
  refine g_aload0 dX6_cost_5 ?_
  refine f_cV0m (laysP ho hs0) rfl (by decide) rfl oY_X6_laysPlays oI_X6_laysPlays lk_X6_177 rfl dX6_cost_6 (by omega) (by omega) rfl (Or.inl rfl) (fun σ6 l6 h6 => ?_)
  have el1 := h6.1
  subst el1
  have hM1 := hM0.trans h6.2.1
  have he1 : σ6 92 6 = 0 := by rw [h6.2.2.2]; exact he0
  have hL1 := h6.2.2.1
  have hs1 := hM1.s hs
  refine g_aload0 dX6_cost_9 ?_
  refine g_iconst dX6_cost_10 ?_
  refine g_aload0 dX6_cost_11 ?_
  refine f_getr (r := 93) rfl (by decide) rfl rfl fl_X6_7 dX6_cost_12 ?_
  try rw [hs1]
  refine g_iconst dX6_cost_15 ?_
  refine f_iald rfl (by decide) ⟨by omega, by show _ < ((67 : Nat) : Int); omega⟩ dX6_cost_16 ?_
  try rw [hs1]
  refine g_aload0 dX6_cost_17 ?_
  refine f_getr (r := 93) rfl (by decide) rfl rfl fl_X6_7 dX6_cost_18 ?_
  try rw [hs1]
  refine g_iconst dX6_cost_21 ?_
  refine f_iald rfl (by decide) ⟨by omega, by show _ < ((67 : Nat) : Int); omega⟩ dX6_cost_22 ?_
  try rw [hs1]
  refine f_cV3q (costFor_m ho hs1 hL1 ⟨by decide, by decide⟩ (by omega) (by omega)) rfl (by decide) rfl oY_X6_costFor oI_X6_costFor lk_X6_336 rfl dX6_cost_23 (by omega) (by omega) rfl (Or.inl rfl) (fun σ23 l23 h23 => ?_)
  have el2 := h23.1
  subst el2
  have hM2 : Md σ σ23 := hM1.trans ⟨fun a a0 a1 => h23.2 a (by omega) (by omega), fun j _ => by rw [h23.2 92 (by decide) (by decide)]⟩
  have he2 : σ23 92 6 = 0 := by rw [h23.2 92 (by decide) (by decide)]; exact he1
  have hs2 := hM2.s hs
  refine g_iretI rfl dX6_cost_26 ?_
  exact Fo.ret (by rw [wOc_0 ho]) hM2 he2
theorem costBy_q {B : Int} {s : Int → Int} (ho : SOK B s) (hs : σ 93 = s) {b : Int} (hb : -12 ≤ b ∧ b ≤ 12) : Fo g zX6_costBy [.ref 92, iv b] σ l (iv (wOc s (wTe s) b)) 0 := by
  have hs0 : up σ 92 6 0 93 = s := (up_n (by decide)).trans hs
  have hM0 : Md σ (up σ 92 6 0) := md_th (Md.refl σ)
  have he0 : up σ 92 6 0 92 6 = 0 := up_eq
  have hp3 := p3_le ho.h7
  have hp0 := p3_pos (wH s)
  have hn40 := ho.n40
  have hnI := ho.nI
  have hH7 := ho.h7
  have hHI := ho.hI
  have hb4 := ho.halves
  have hb5 := ho.crosses
  have h1 := isIn_ok (g := g) (σ := σ) (l := l) (x := b) (a := -12) (b := 12) (by omega) (by decide) (by decide)
  rw [bvT hb] at h1
  refine Fn.of [some (.ref 92), some (iv b)] rfl (by decide) (Nat.le_of_ble_eq_true rfl) rfl ?_
  refine g_aload0 dX6_costBy_0 ?_
  refine g_iload1 dX6_costBy_1 ?_
  refine g_i2l ⟨by omega, by omega⟩ dX6_costBy_2 ?_
  refine g_ldc2 (v := Int64.ofInt (-12)) kn_X6_348 dX6_costBy_3 ?_
  refine g_ldc2 (v := Int64.ofInt (12)) kl_X6_350 dX6_costBy_6 ?_
  refine f_cS3w (h1) oY_X6_isIn oT_X6_isIn lk_X6_83 rfl dX6_costBy_9 rfl (Or.inl rfl) ?_
  refine g_iconst dX6_costBy_12 ?_
  refine f_cV2x (passes_11) rfl (by decide) rfl oY_X6_passes oI_X6_passes lk_X6_285 rfl dX6_costBy_13 rfl (Or.inl rfl) ?_
  refine g_if_ne ⟨by decide, by decide⟩ (tgt := 21) dX6_costBy_16 rfl (fun h16 => ?_) (fun h16 => absurd h16 (by decide))
  refine g_aload0 dX6_costBy_21 ?_
  refine f_cV0m (laysP ho hs0) rfl (by decide) rfl oY_X6_laysPlays oI_X6_laysPlays lk_X6_177 rfl dX6_costBy_22 (by omega) (by omega) rfl (Or.inl rfl) (fun σ22 l22 h22 => ?_)
  have el1 := h22.1
  subst el1
  have hM1 := hM0.trans h22.2.1
  have he1 : σ22 92 6 = 0 := by rw [h22.2.2.2]; exact he0
  have hL1 := h22.2.2.1
  have hs1 := hM1.s hs
  refine g_aload0 dX6_costBy_25 ?_
  refine g_iload1 dX6_costBy_26 ?_
  refine g_aload0 dX6_costBy_27 ?_
  refine f_getr (r := 93) rfl (by decide) rfl rfl fl_X6_7 dX6_costBy_28 ?_
  try rw [hs1]
  refine g_iconst dX6_costBy_31 ?_
  refine f_iald rfl (by decide) ⟨by omega, by show _ < ((67 : Nat) : Int); omega⟩ dX6_costBy_32 ?_
  try rw [hs1]
  refine g_aload0 dX6_costBy_33 ?_
  refine f_getr (r := 93) rfl (by decide) rfl rfl fl_X6_7 dX6_costBy_34 ?_
  try rw [hs1]
  refine g_iconst dX6_costBy_37 ?_
  refine f_iald rfl (by decide) ⟨by omega, by show _ < ((67 : Nat) : Int); omega⟩ dX6_costBy_38 ?_
  try rw [hs1]
  refine f_cV3q (costFor_m ho hs1 hL1 hb (by omega) (by omega)) rfl (by decide) rfl oY_X6_costFor oI_X6_costFor lk_X6_336 rfl dX6_costBy_39 (by omega) (by omega) rfl (Or.inl rfl) (fun σ39 l39 h39 => ?_)
  have el2 := h39.1
  subst el2
  have hM2 : Md σ σ39 := hM1.trans ⟨fun a a0 a1 => h39.2 a (by omega) (by omega), fun j _ => by rw [h39.2 92 (by decide) (by decide)]⟩
  have he2 : σ39 92 6 = 0 := by rw [h39.2 92 (by decide) (by decide)]; exact he1
  have hs2 := hM2.s hs
  refine g_iretI rfl dX6_costBy_42 ?_
  exact Fo.ret rfl hM2 he2
theorem costBy_r {B : Int} {s : Int → Int} (ho : SOK B s) (hs : σ 93 = s) {b : Int} (hx : R32 b) (hb : ¬ (-12 ≤ b ∧ b ≤ 12)) : Fo g zX6_costBy [.ref 92, iv b] σ l (iv 0) 1 := by
  have hs0 : up σ 92 6 0 93 = s := (up_n (by decide)).trans hs
  have hM0 : Md σ (up σ 92 6 0) := md_th (Md.refl σ)
  have he0 : up σ 92 6 0 92 6 = 0 := up_eq
  have hp3 := p3_le ho.h7
  have hp0 := p3_pos (wH s)
  have hn40 := ho.n40
  have hnI := ho.nI
  have hH7 := ho.h7
  have hHI := ho.hI
  have hb4 := ho.halves
  have hb5 := ho.crosses
  have h1 := isIn_ok (g := g) (σ := σ) (l := l) (x := b) (a := -12) (b := 12) (by omega) (by decide) (by decide)
  rw [bvF hb] at h1
  refine Fn.of [some (.ref 92), some (iv b)] rfl (by decide) (Nat.le_of_ble_eq_true rfl) rfl ?_
  refine g_aload0 dX6_costBy_0 ?_
  refine g_iload1 dX6_costBy_1 ?_
  refine g_i2l ⟨by omega, by omega⟩ dX6_costBy_2 ?_
  refine g_ldc2 (v := Int64.ofInt (-12)) kn_X6_348 dX6_costBy_3 ?_
  refine g_ldc2 (v := Int64.ofInt (12)) kl_X6_350 dX6_costBy_6 ?_
  refine f_cS3w (h1) oY_X6_isIn oT_X6_isIn lk_X6_83 rfl dX6_costBy_9 rfl (Or.inl rfl) ?_
  refine g_iconst dX6_costBy_12 ?_
  refine f_cV2x (passes_01) rfl (by decide) rfl oY_X6_passes oI_X6_passes lk_X6_285 rfl dX6_costBy_13 rfl (Or.inl rfl) ?_
  refine g_if_ne ⟨by decide, by decide⟩ (tgt := 21) dX6_costBy_16 rfl (fun h16 => absurd h16 (by decide)) (fun h16 => ?_)
  refine g_iconst dX6_costBy_19 ?_
  refine g_iretI rfl dX6_costBy_20 ?_
  exact Fo.ret rfl (md_th (Md.refl σ)) up_eq
theorem areLimits_m {m mc : Int} (hx : R32 m) (hy : R32 mc)  : Fw g zX6_areLimits [iv m, iv mc] σ l (bv ((0 ≤ m ∧ m ≤ 2) ∧ 0 ≤ mc ∧ mc ≤ 3)) := by
  refine Fn.of [some (iv m), some (iv mc)] rfl (by decide) (Nat.le_of_ble_eq_true rfl) rfl ?_
  refine g_iload0 dX6_areLimits_0 ?_
  refine g_i2l ⟨by omega, by omega⟩ dX6_areLimits_1 ?_
  refine g_lconst0 dX6_areLimits_2 ?_
  refine g_ldc2 (v := Int64.ofInt (2)) kl_X6_295 dX6_areLimits_3 ?_
  refine f_cS3w (isIn_ok (by omega) (by decide) (by decide)) oY_X6_isIn oT_X6_isIn lk_X6_83 rfl dX6_areLimits_6 rfl (Or.inl rfl) ?_
  refine g_ifeqB (tgt := 28) dX6_areLimits_9 rfl (fun h9 => ?_) (fun h9 => ?_)
  · refine g_iconst dX6_areLimits_28 ?_
    refine g_iretB (Or.inl rfl) rfl dX6_areLimits_29 ?_
    first
      | exact Fw.ret1 ⟨by omega, by omega⟩
      | exact Fw.ret0 (fun z => by omega)
  · refine g_iload1 dX6_areLimits_12 ?_
    refine g_i2l ⟨by omega, by omega⟩ dX6_areLimits_13 ?_
    refine g_lconst0 dX6_areLimits_14 ?_
    refine g_ldc2 (v := Int64.ofInt (3)) kl_X6_352 dX6_areLimits_15 ?_
    refine f_cS3w (isIn_ok (by omega) (by decide) (by decide)) oY_X6_isIn oT_X6_isIn lk_X6_83 rfl dX6_areLimits_18 rfl (Or.inl rfl) ?_
    refine g_ifeqB (tgt := 28) dX6_areLimits_21 rfl (fun h21 => ?_) (fun h21 => ?_)
    · refine g_iconst dX6_areLimits_28 ?_
      refine g_iretB (Or.inl rfl) rfl dX6_areLimits_29 ?_
      first
        | exact Fw.ret1 ⟨by omega, by omega⟩
        | exact Fw.ret0 (fun z => by omega)
    · refine g_iconst dX6_areLimits_24 ?_
      refine g_goto (tgt := 29) dX6_areLimits_25 rfl ?_
      refine g_iretB (Or.inr rfl) rfl dX6_areLimits_29 ?_
      first
        | exact Fw.ret1 ⟨by omega, by omega⟩
        | exact Fw.ret0 (fun z => by omega)
theorem costWith_q {B : Int} {s : Int → Int} (ho : SOK B s) (hs : σ 93 = s) {m mc : Int} (hx : R32 m) (hy : R32 mc) (h : (0 ≤ m ∧ m ≤ 2) ∧ 0 ≤ mc ∧ mc ≤ 3) : Fo g zX6_costWith [.ref 92, iv m, iv mc] σ l (iv (wOc s (wTE s m mc) 0)) 0 := by
  have hs0 : up σ 92 6 0 93 = s := (up_n (by decide)).trans hs
  have hM0 : Md σ (up σ 92 6 0) := md_th (Md.refl σ)
  have he0 : up σ 92 6 0 92 6 = 0 := up_eq
  have hp3 := p3_le ho.h7
  have hp0 := p3_pos (wH s)
  have hn40 := ho.n40
  have hnI := ho.nI
  have hH7 := ho.h7
  have hHI := ho.hI
  have hb4 := ho.halves
  have hb5 := ho.crosses
  have h1 := areLimits_m (g := g) (σ := σ) (l := l) hx hy
  rw [bvT h] at h1
  refine Fn.of [some (.ref 92), some (iv m), some (iv mc)] rfl (by decide) (Nat.le_of_ble_eq_true rfl) rfl ?_
  refine g_aload0 dX6_costWith_0 ?_
  refine g_iload1 dX6_costWith_1 ?_
  refine g_iload2 dX6_costWith_2 ?_
  refine f_cS2w (h1) oY_X6_areLimits oT_X6_areLimits lk_X6_354 rfl dX6_costWith_3 rfl (Or.inl rfl) ?_
  refine g_iconst dX6_costWith_6 ?_
  refine f_cV2x (passes_11) rfl (by decide) rfl oY_X6_passes oI_X6_passes lk_X6_285 rfl dX6_costWith_7 rfl (Or.inl rfl) ?_
  refine g_if_ne ⟨by decide, by decide⟩ (tgt := 15) dX6_costWith_10 rfl (fun h10 => ?_) (fun h10 => absurd h10 (by decide))
  refine g_aload0 dX6_costWith_15 ?_
  refine f_cV0m (laysP ho hs0) rfl (by decide) rfl oY_X6_laysPlays oI_X6_laysPlays lk_X6_177 rfl dX6_costWith_16 (by omega) (by omega) rfl (Or.inl rfl) (fun σ16 l16 h16 => ?_)
  have el1 := h16.1
  subst el1
  have hM1 := hM0.trans h16.2.1
  have he1 : σ16 92 6 = 0 := by rw [h16.2.2.2]; exact he0
  have hL1 := h16.2.2.1
  have hs1 := hM1.s hs
  refine g_aload0 dX6_costWith_19 ?_
  refine g_iconst dX6_costWith_20 ?_
  refine g_iload1 dX6_costWith_21 ?_
  refine g_iload2 dX6_costWith_22 ?_
  refine f_cV3q (costFor_m ho hs1 hL1 ⟨by decide, by decide⟩ (by omega) (by omega)) rfl (by decide) rfl oY_X6_costFor oI_X6_costFor lk_X6_336 rfl dX6_costWith_23 (by omega) (by omega) rfl (Or.inl rfl) (fun σ23 l23 h23 => ?_)
  have el2 := h23.1
  subst el2
  have hM2 : Md σ σ23 := hM1.trans ⟨fun a a0 a1 => h23.2 a (by omega) (by omega), fun j _ => by rw [h23.2 92 (by decide) (by decide)]⟩
  have he2 : σ23 92 6 = 0 := by rw [h23.2 92 (by decide) (by decide)]; exact he1
  have hs2 := hM2.s hs
  refine g_iretI rfl dX6_costWith_26 ?_
  exact Fo.ret rfl hM2 he2
theorem costWith_r {B : Int} {s : Int → Int} (ho : SOK B s) (hs : σ 93 = s) {m mc : Int} (hx : R32 m) (hy : R32 mc) (h : ¬ ((0 ≤ m ∧ m ≤ 2) ∧ 0 ≤ mc ∧ mc ≤ 3)) : Fo g zX6_costWith [.ref 92, iv m, iv mc] σ l (iv 0) 1 := by
  have hs0 : up σ 92 6 0 93 = s := (up_n (by decide)).trans hs
  have hM0 : Md σ (up σ 92 6 0) := md_th (Md.refl σ)
  have he0 : up σ 92 6 0 92 6 = 0 := up_eq
  have hp3 := p3_le ho.h7
  have hp0 := p3_pos (wH s)
  have hn40 := ho.n40
  have hnI := ho.nI
  have hH7 := ho.h7
  have hHI := ho.hI
  have hb4 := ho.halves
  have hb5 := ho.crosses
  have h1 := areLimits_m (g := g) (σ := σ) (l := l) hx hy
  rw [bvF h] at h1
  refine Fn.of [some (.ref 92), some (iv m), some (iv mc)] rfl (by decide) (Nat.le_of_ble_eq_true rfl) rfl ?_
  refine g_aload0 dX6_costWith_0 ?_
  refine g_iload1 dX6_costWith_1 ?_
  refine g_iload2 dX6_costWith_2 ?_
  refine f_cS2w (h1) oY_X6_areLimits oT_X6_areLimits lk_X6_354 rfl dX6_costWith_3 rfl (Or.inl rfl) ?_
  refine g_iconst dX6_costWith_6 ?_
  refine f_cV2x (passes_01) rfl (by decide) rfl oY_X6_passes oI_X6_passes lk_X6_285 rfl dX6_costWith_7 rfl (Or.inl rfl) ?_
  refine g_if_ne ⟨by decide, by decide⟩ (tgt := 15) dX6_costWith_10 rfl (fun h10 => absurd h10 (by decide)) (fun h10 => ?_)
  refine g_iconst dX6_costWith_13 ?_
  refine g_iretI rfl dX6_costWith_14 ?_
  exact Fo.ret rfl (md_th (Md.refl σ)) up_eq
theorem wayPlay_q {B : Int} {s : Int → Int} (ho : SOK B s) (hs : σ 93 = s) {k : Nat} (hkn : k < wN s) : Fo g zX6_wayPlay [.ref 92, iv (k : Int)] σ l (iv (if wTot s = -1 then -1 else wWp s (k + 1))) 0 := by
  have hs0 : up σ 92 6 0 93 = s := (up_n (by decide)).trans hs
  have hM0 : Md σ (up σ 92 6 0) := md_th (Md.refl σ)
  have he0 : up σ 92 6 0 92 6 = 0 := up_eq
  have hp3 := p3_le ho.h7
  have hp0 := p3_pos (wH s)
  have hn40 := ho.n40
  have hnI := ho.nI
  have hH7 := ho.h7
  have hHI := ho.hI
  have hb4 := ho.halves
  have hb5 := ho.crosses
  have hti := wTot_iff ho
  refine Fn.of [some (.ref 92), some (iv (k : Int))] rfl (by decide) (Nat.le_of_ble_eq_true rfl) rfl ?_
  by_cases hk : wLk s (wTe s) 0 0 = -1
  · rw [if_neg (fun z => hti.mp z hk)]
    refine g_aload0 dX6_wayPlay_0 ?_
    refine g_iload1 dX6_wayPlay_1 ?_
    refine f_cV1x (mayNote_y ho hs (by omega) (by omega)) rfl (by decide) rfl oY_X6_mayNote oI_X6_mayNote lk_X6_330 rfl dX6_wayPlay_2 rfl (Or.inl rfl) ?_
    refine g_if_ne ⟨by decide, by decide⟩ (tgt := 10) dX6_wayPlay_5 rfl (fun h5 => ?_) (fun h5 => absurd h5 (by decide))
    refine g_aload0 dX6_wayPlay_10 ?_
    refine f_cV0q (findsWay_y ho hs0 hk) rfl (by decide) rfl oY_X6_findsWay oI_X6_findsWay lk_X6_339 rfl dX6_wayPlay_11 (by omega) (by omega) rfl (Or.inl rfl) (fun σ11 l11 h11 => ?_)
    have el1 := h11.1
    subst el1
    have hM1 := hM0.trans h11.2.1
    have he1 : σ11 92 6 = 0 := by rw [h11.2.2.1]; exact he0
    have hL1 := h11.2.2.2.1
    have hs1 := hM1.s hs
    have hw1 := h11.2.2.2.2
    refine g_if_eq ⟨by decide, by decide⟩ (tgt := 26) dX6_wayPlay_14 rfl (fun h14 => absurd h14 (by decide)) (fun h14 => ?_)
    refine g_aload0 dX6_wayPlay_17 ?_
    refine f_getr (r := 104) rfl (by decide) rfl rfl fl_X6_46 dX6_wayPlay_18 ?_
    try rw [hs1]
    refine g_iload1 dX6_wayPlay_21 ?_
    refine f_iald rfl (by decide) ⟨by omega, by show _ < ((40 : Nat) : Int); omega⟩ dX6_wayPlay_22 ?_
    try rw [hs1]
    rw [hw1 k hkn]
    refine g_goto (tgt := 27) dX6_wayPlay_23 rfl ?_
    refine g_iretI rfl dX6_wayPlay_27 ?_
    exact Fo.ret rfl hM1 he1
  · rw [if_pos (hti.mpr hk)]
    refine g_aload0 dX6_wayPlay_0 ?_
    refine g_iload1 dX6_wayPlay_1 ?_
    refine f_cV1x (mayNote_y ho hs (by omega) (by omega)) rfl (by decide) rfl oY_X6_mayNote oI_X6_mayNote lk_X6_330 rfl dX6_wayPlay_2 rfl (Or.inl rfl) ?_
    refine g_if_ne ⟨by decide, by decide⟩ (tgt := 10) dX6_wayPlay_5 rfl (fun h5 => ?_) (fun h5 => absurd h5 (by decide))
    refine g_aload0 dX6_wayPlay_10 ?_
    refine f_cV0q (findsWay_n ho hs0 hk) rfl (by decide) rfl oY_X6_findsWay oI_X6_findsWay lk_X6_339 rfl dX6_wayPlay_11 (by omega) (by omega) rfl (Or.inl rfl) (fun σ11 l11 h11 => ?_)
    have el1 := h11.1
    subst el1
    have hM1 := hM0.trans h11.2.1
    have he1 : σ11 92 6 = 0 := by rw [h11.2.2.1]; exact he0
    have hL1 := h11.2.2.2.1
    have hs1 := hM1.s hs
    refine g_if_eq ⟨by decide, by decide⟩ (tgt := 26) dX6_wayPlay_14 rfl (fun h14 => ?_) (fun h14 => absurd h14 (by decide))
    refine g_iconst dX6_wayPlay_26 ?_
    refine g_iretI rfl dX6_wayPlay_27 ?_
    exact Fo.ret rfl hM1 he1
theorem wayPlay_r {B : Int} {s : Int → Int} (ho : SOK B s) (hs : σ 93 = s) {x : Int} (hx : R32 x) (h : ¬ (0 ≤ x ∧ x < s 9)) : Fo g zX6_wayPlay [.ref 92, iv x] σ l (iv 0) 1 := by
  have hs0 : up σ 92 6 0 93 = s := (up_n (by decide)).trans hs
  have hM0 : Md σ (up σ 92 6 0) := md_th (Md.refl σ)
  have he0 : up σ 92 6 0 92 6 = 0 := up_eq
  have hp3 := p3_le ho.h7
  have hp0 := p3_pos (wH s)
  have hn40 := ho.n40
  have hnI := ho.nI
  have hH7 := ho.h7
  have hHI := ho.hI
  have hb4 := ho.halves
  have hb5 := ho.crosses
  refine Fn.of [some (.ref 92), some (iv x)] rfl (by decide) (Nat.le_of_ble_eq_true rfl) rfl ?_
  refine g_aload0 dX6_wayPlay_0 ?_
  refine g_iload1 dX6_wayPlay_1 ?_
  refine f_cV1x (mayNote_n ho hs hx h) rfl (by decide) rfl oY_X6_mayNote oI_X6_mayNote lk_X6_330 rfl dX6_wayPlay_2 rfl (Or.inl rfl) ?_
  refine g_if_ne ⟨by decide, by decide⟩ (tgt := 10) dX6_wayPlay_5 rfl (fun h5 => absurd h5 (by decide)) (fun h5 => ?_)
  refine g_iconst dX6_wayPlay_8 ?_
  refine g_iretI rfl dX6_wayPlay_9 ?_
  exact Fo.ret rfl (md_th (Md.refl σ)) up_eq
theorem wayChange_q {B : Int} {s : Int → Int} (ho : SOK B s) (hs : σ 93 = s) {k : Nat} (hkn : k < wN s) : Fo g zX6_wayChange [.ref 92, iv (k : Int)] σ l (iv (if wTot s = -1 then -1 else chg (wCo s) (wWp s k) (wWp s (k + 1)))) 0 := by
  have hs0 : up σ 92 6 0 93 = s := (up_n (by decide)).trans hs
  have hM0 : Md σ (up σ 92 6 0) := md_th (Md.refl σ)
  have he0 : up σ 92 6 0 92 6 = 0 := up_eq
  have hp3 := p3_le ho.h7
  have hp0 := p3_pos (wH s)
  have hn40 := ho.n40
  have hnI := ho.nI
  have hH7 := ho.h7
  have hHI := ho.hI
  have hb4 := ho.halves
  have hb5 := ho.crosses
  have hti := wTot_iff ho
  refine Fn.of [some (.ref 92), some (iv (k : Int))] rfl (by decide) (Nat.le_of_ble_eq_true rfl) rfl ?_
  by_cases hk : wLk s (wTe s) 0 0 = -1
  · rw [if_neg (fun z => hti.mp z hk)]
    refine g_aload0 dX6_wayChange_0 ?_
    refine g_iload1 dX6_wayChange_1 ?_
    refine f_cV1x (mayNote_y ho hs (by omega) (by omega)) rfl (by decide) rfl oY_X6_mayNote oI_X6_mayNote lk_X6_330 rfl dX6_wayChange_2 rfl (Or.inl rfl) ?_
    refine g_if_ne ⟨by decide, by decide⟩ (tgt := 10) dX6_wayChange_5 rfl (fun h5 => ?_) (fun h5 => absurd h5 (by decide))
    refine g_aload0 dX6_wayChange_10 ?_
    refine f_cV0q (findsWay_y ho hs0 hk) rfl (by decide) rfl oY_X6_findsWay oI_X6_findsWay lk_X6_339 rfl dX6_wayChange_11 (by omega) (by omega) rfl (Or.inl rfl) (fun σ11 l11 h11 => ?_)
    have el1 := h11.1
    subst el1
    have hM1 := hM0.trans h11.2.1
    have he1 : σ11 92 6 = 0 := by rw [h11.2.2.1]; exact he0
    have hL1 := h11.2.2.2.1
    have hs1 := hM1.s hs
    have hw1 := h11.2.2.2.2
    refine g_if_eq ⟨by decide, by decide⟩ (tgt := 25) dX6_wayChange_14 rfl (fun h14 => absurd h14 (by decide)) (fun h14 => ?_)
    refine g_aload0 dX6_wayChange_17 ?_
    refine g_iload1 dX6_wayChange_18 ?_
    refine f_cV1w (changeTo_m ho hs1 hw1 hkn) rfl (by decide) rfl oY_X6_changeTo oI_X6_changeTo lk_X6_342 rfl dX6_wayChange_19 rfl (Or.inl rfl) ?_
    refine g_goto (tgt := 26) dX6_wayChange_22 rfl ?_
    refine g_iretI rfl dX6_wayChange_26 ?_
    exact Fo.ret rfl hM1 he1
  · rw [if_pos (hti.mpr hk)]
    refine g_aload0 dX6_wayChange_0 ?_
    refine g_iload1 dX6_wayChange_1 ?_
    refine f_cV1x (mayNote_y ho hs (by omega) (by omega)) rfl (by decide) rfl oY_X6_mayNote oI_X6_mayNote lk_X6_330 rfl dX6_wayChange_2 rfl (Or.inl rfl) ?_
    refine g_if_ne ⟨by decide, by decide⟩ (tgt := 10) dX6_wayChange_5 rfl (fun h5 => ?_) (fun h5 => absurd h5 (by decide))
    refine g_aload0 dX6_wayChange_10 ?_
    refine f_cV0q (findsWay_n ho hs0 hk) rfl (by decide) rfl oY_X6_findsWay oI_X6_findsWay lk_X6_339 rfl dX6_wayChange_11 (by omega) (by omega) rfl (Or.inl rfl) (fun σ11 l11 h11 => ?_)
    have el1 := h11.1
    subst el1
    have hM1 := hM0.trans h11.2.1
    have he1 : σ11 92 6 = 0 := by rw [h11.2.2.1]; exact he0
    have hL1 := h11.2.2.2.1
    have hs1 := hM1.s hs
    refine g_if_eq ⟨by decide, by decide⟩ (tgt := 25) dX6_wayChange_14 rfl (fun h14 => ?_) (fun h14 => absurd h14 (by decide))
    refine g_iconst dX6_wayChange_25 ?_
    refine g_iretI rfl dX6_wayChange_26 ?_
    exact Fo.ret rfl hM1 he1
theorem wayChange_r {B : Int} {s : Int → Int} (ho : SOK B s) (hs : σ 93 = s) {x : Int} (hx : R32 x) (h : ¬ (0 ≤ x ∧ x < s 9)) : Fo g zX6_wayChange [.ref 92, iv x] σ l (iv 0) 1 := by
  have hs0 : up σ 92 6 0 93 = s := (up_n (by decide)).trans hs
  have hM0 : Md σ (up σ 92 6 0) := md_th (Md.refl σ)
  have he0 : up σ 92 6 0 92 6 = 0 := up_eq
  have hp3 := p3_le ho.h7
  have hp0 := p3_pos (wH s)
  have hn40 := ho.n40
  have hnI := ho.nI
  have hH7 := ho.h7
  have hHI := ho.hI
  have hb4 := ho.halves
  have hb5 := ho.crosses
  refine Fn.of [some (.ref 92), some (iv x)] rfl (by decide) (Nat.le_of_ble_eq_true rfl) rfl ?_
  refine g_aload0 dX6_wayChange_0 ?_
  refine g_iload1 dX6_wayChange_1 ?_
  refine f_cV1x (mayNote_n ho hs hx h) rfl (by decide) rfl oY_X6_mayNote oI_X6_mayNote lk_X6_330 rfl dX6_wayChange_2 rfl (Or.inl rfl) ?_
  refine g_if_ne ⟨by decide, by decide⟩ (tgt := 10) dX6_wayChange_5 rfl (fun h5 => absurd h5 (by decide)) (fun h5 => ?_)
  refine g_iconst dX6_wayChange_8 ?_
  refine g_iretI rfl dX6_wayChange_9 ?_
  exact Fo.ret rfl (md_th (Md.refl σ)) up_eq
end C74
