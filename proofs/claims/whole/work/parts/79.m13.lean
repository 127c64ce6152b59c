/-! The model: what sets -/
section C79
variable {g : gT} {σ : sT} {l : Nat → Nat}
theorem setTolerance_q {B : Int} {s : Int → Int} (ho : SOK B s) (hs : σ 93 = s) {n : Nat} (hn : σ 92 5 = (n : Int)) (h8 : n ≤ 8) {x : Int} (h : 5 ≤ x ∧ x ≤ 49) : Ms g zX6_setTolerance [.ref 92, iv x] σ l (iv (s 2)) (su s 2 x) (nP n) (pP n s (pr σ)) := by
  have hs0 : up σ 92 6 0 93 = s := (up_n (by decide)).trans hs
  have hM0 : Md σ (up σ 92 6 0) := md_th (Md.refl σ)
  have he0 : up σ 92 6 0 92 6 = 0 := up_eq
  have hp3 := p3_le ho.h7
  have hp0 := p3_pos (wH s)
  have hn40 := ho.n40
  have hnI := ho.nI
  have hH7 := ho.h7
  have hHI := ho.hI
  have hb4 := ho.halves
  have hb5 := ho.crosses
  have h1 := isIn_ok (g := g) (σ := σ) (l := l) (x := x) (a := 5) (b := 49) (by omega) (by decide) (by decide)
  rw [bvT h] at h1
  refine Fn.of [some (.ref 92), some (iv x)] rfl (by decide) (Nat.le_of_ble_eq_true rfl) rfl ?_
  refine g_aload0 dX6_setTolerance_0 ?_
  refine g_iload1 dX6_setTolerance_1 ?_
  refine g_i2l ⟨by omega, by omega⟩ dX6_setTolerance_2 ?_
  refine g_ldc2 (v := Int64.ofInt (5)) kl_X6_370 dX6_setTolerance_3 ?_
  refine g_ldc2 (v := Int64.ofInt (49)) kl_X6_372 dX6_setTolerance_6 ?_
  refine f_cS3w (h1) oY_X6_isIn oT_X6_isIn lk_X6_83 rfl dX6_setTolerance_9 rfl (Or.inl rfl) ?_
  refine g_iconst dX6_setTolerance_12 ?_
  refine f_cV2x (passes_11) rfl (by decide) rfl oY_X6_passes oI_X6_passes lk_X6_285 rfl dX6_setTolerance_13 rfl (Or.inl rfl) ?_
  refine g_if_eq ⟨by decide, by decide⟩ (tgt := 28) dX6_setTolerance_16 rfl (fun h16 => absurd h16 (by decide)) (fun h16 => ?_)
  refine g_aload0 dX6_setTolerance_19 ?_
  refine g_iconst dX6_setTolerance_20 ?_
  refine g_iload1 dX6_setTolerance_21 ?_
  refine f_cV2q (becomes_m (B := B) hM0 hs hn h8 (by omega)) rfl (by decide) rfl oY_X6_becomes oI_X6_becomes lk_X6_367 rfl dX6_setTolerance_22 (by omega) (by omega) rfl (Or.inl rfl) (fun σ22 l22 h22 => ?_)
  have el1 := h22.1
  subst el1
  have hs1 := h22.2.1
  have hS1 := h22.2.2.1
  have he1 : σ22 92 6 = 0 := h22.2.2.2.trans he0
  refine g_goto (tgt := 29) dX6_setTolerance_25 rfl ?_
  refine g_iretI rfl dX6_setTolerance_29 ?_
  exact Ms.ret rfl hS1 he1
theorem setTolerance_r {B : Int} {s : Int → Int} (ho : SOK B s) (hs : σ 93 = s) {x : Int} (hx : R32 x) (h : ¬ (5 ≤ x ∧ x ≤ 49)) : Fo g zX6_setTolerance [.ref 92, iv x] σ l (iv 0) 1 := by
  have hs0 : up σ 92 6 0 93 = s := (up_n (by decide)).trans hs
  have hM0 : Md σ (up σ 92 6 0) := md_th (Md.refl σ)
  have he0 : up σ 92 6 0 92 6 = 0 := up_eq
  have hp3 := p3_le ho.h7
  have hp0 := p3_pos (wH s)
  have hn40 := ho.n40
  have hnI := ho.nI
  have hH7 := ho.h7
  have hHI := ho.hI
  have hb4 := ho.halves
  have hb5 := ho.crosses
  have h1 := isIn_ok (g := g) (σ := σ) (l := l) (x := x) (a := 5) (b := 49) (by omega) (by decide) (by decide)
  rw [bvF h] at h1
  refine Fn.of [some (.ref 92), some (iv x)] rfl (by decide) (Nat.le_of_ble_eq_true rfl) rfl ?_
  refine g_aload0 dX6_setTolerance_0 ?_
  refine g_iload1 dX6_setTolerance_1 ?_
  refine g_i2l ⟨by omega, by omega⟩ dX6_setTolerance_2 ?_
  refine g_ldc2 (v := Int64.ofInt (5)) kl_X6_370 dX6_setTolerance_3 ?_
  refine g_ldc2 (v := Int64.ofInt (49)) kl_X6_372 dX6_setTolerance_6 ?_
  refine f_cS3w (h1) oY_X6_isIn oT_X6_isIn lk_X6_83 rfl dX6_setTolerance_9 rfl (Or.inl rfl) ?_
  refine g_iconst dX6_setTolerance_12 ?_
  refine f_cV2x (passes_01) rfl (by decide) rfl oY_X6_passes oI_X6_passes lk_X6_285 rfl dX6_setTolerance_13 rfl (Or.inl rfl) ?_
  refine g_if_eq ⟨by decide, by decide⟩ (tgt := 28) dX6_setTolerance_16 rfl (fun h16 => ?_) (fun h16 => absurd h16 (by decide))
  refine g_iconst dX6_setTolerance_28 ?_
  refine g_iretI rfl dX6_setTolerance_29 ?_
  exact Fo.ret rfl (md_th (Md.refl σ)) up_eq
theorem setLimits_q {B : Int} {s : Int → Int} (ho : SOK B s) (hs : σ 93 = s) {n : Nat} (hn : σ 92 5 = (n : Int)) (h8 : n ≤ 8) {x y : Int} (h : (0 ≤ x ∧ x ≤ 2) ∧ 0 ≤ y ∧ y ≤ 3) : Ms g zX6_setLimits [.ref 92, iv x, iv y] σ l (iv (10 * s 4 + s 5)) (su (su s 4 x) 5 y) (nP n) (pP n s (pr σ)) := by
  have hs0 : up σ 92 6 0 93 = s := (up_n (by decide)).trans hs
  have hM0 : Md σ (up σ 92 6 0) := md_th (Md.refl σ)
  have he0 : up σ 92 6 0 92 6 = 0 := up_eq
  have hp3 := p3_le ho.h7
  have hp0 := p3_pos (wH s)
  have hn40 := ho.n40
  have hnI := ho.nI
  have hH7 := ho.h7
  have hHI := ho.hI
  have hb4 := ho.halves
  have hb5 := ho.crosses
  have h1 := areLimits_m (g := g) (σ := σ) (l := l) (m := x) (mc := y) (by omega) (by omega)
  rw [bvT h] at h1
  refine Fn.of [some (.ref 92), some (iv x), some (iv y), none, none] rfl (by decide) (Nat.le_of_ble_eq_true rfl) rfl ?_
  refine g_aload0 dX6_setLimits_0 ?_
  refine g_iload1 dX6_setLimits_1 ?_
  refine g_iload2 dX6_setLimits_2 ?_
  refine f_cS2w (h1) oY_X6_areLimits oT_X6_areLimits lk_X6_354 rfl dX6_setLimits_3 rfl (Or.inl rfl) ?_
  refine g_iconst dX6_setLimits_6 ?_
  refine f_cV2x (passes_11) rfl (by decide) rfl oY_X6_passes oI_X6_passes lk_X6_285 rfl dX6_setLimits_7 rfl (Or.inl rfl) ?_
  refine g_if_ne ⟨by decide, by decide⟩ (tgt := 15) dX6_setLimits_10 rfl (fun h10 => ?_) (fun h10 => absurd h10 (by decide))
  refine g_bipush dX6_setLimits_15 (by decide) ?_
  refine g_aload0 dX6_setLimits_17 ?_
  refine f_getr (r := 93) rfl (by decide) rfl rfl fl_X6_7 dX6_setLimits_18 ?_
  try rw [hs0]
  refine g_iconst dX6_setLimits_21 ?_
  refine f_iald rfl (by decide) ⟨by omega, by show _ < ((67 : Nat) : Int); omega⟩ dX6_setLimits_22 ?_
  try rw [hs0]
  refine g_imul dX6_setLimits_23 ?_
  refine g_aload0 dX6_setLimits_24 ?_
  refine f_getr (r := 93) rfl (by decide) rfl rfl fl_X6_7 dX6_setLimits_25 ?_
  try rw [hs0]
  refine g_iconst dX6_setLimits_28 ?_
  refine f_iald rfl (by decide) ⟨by omega, by show _ < ((67 : Nat) : Int); omega⟩ dX6_setLimits_29 ?_
  try rw [hs0]
  refine g_iadd dX6_setLimits_30 ?_
  refine g_istore3 dX6_setLimits_31 rfl (by decide) ?_
  refine g_aload0 dX6_setLimits_32 ?_
  refine g_iconst dX6_setLimits_33 ?_
  refine g_iload1 dX6_setLimits_34 ?_
  refine f_cV2q (becomes_m (B := B) hM0 hs hn h8 (by omega)) rfl (by decide) rfl oY_X6_becomes oI_X6_becomes lk_X6_367 rfl dX6_setLimits_35 (by omega) (by omega) rfl (Or.inl rfl) (fun σ35 l35 h35 => ?_)
  have el1 := h35.1
  subst el1
  have hs1 := h35.2.1
  have hS1 := h35.2.2.1
  have he1 : σ35 92 6 = 0 := h35.2.2.2.trans he0
  refine g_istore4 dX6_setLimits_38 rfl (by decide) ?_
  refine g_aload0 dX6_setLimits_40 ?_
  refine f_getr (r := 93) rfl (by decide) rfl rfl fl_X6_7 dX6_setLimits_41 ?_
  try rw [hs0]
  refine g_iconst dX6_setLimits_44 ?_
  refine g_iload2 dX6_setLimits_45 ?_
  refine f_iast rfl (by decide) ⟨by omega, by show _ < ((67 : Nat) : Int); omega⟩ dX6_setLimits_46 ?_
  refine g_iload3 dX6_setLimits_47 ?_
  refine g_iretI rfl dX6_setLimits_48 ?_
  exact Ms.ret rfl (hS1.set 5 y) (by rw [up_n (by decide)]; exact he1)
theorem setLimits_r {B : Int} {s : Int → Int} (ho : SOK B s) (hs : σ 93 = s) {x y : Int} (hx : R32 x) (hy : R32 y) (h : ¬ ((0 ≤ x ∧ x ≤ 2) ∧ 0 ≤ y ∧ y ≤ 3)) : Fo g zX6_setLimits [.ref 92, iv x, iv y] σ l (iv 0) 1 := by
  have hs0 : up σ 92 6 0 93 = s := (up_n (by decide)).trans hs
  have hM0 : Md σ (up σ 92 6 0) := md_th (Md.refl σ)
  have he0 : up σ 92 6 0 92 6 = 0 := up_eq
  have hp3 := p3_le ho.h7
  have hp0 := p3_pos (wH s)
  have hn40 := ho.n40
  have hnI := ho.nI
  have hH7 := ho.h7
  have hHI := ho.hI
  have hb4 := ho.halves
  have hb5 := ho.crosses
  have h1 := areLimits_m (g := g) (σ := σ) (l := l) (m := x) (mc := y) (by omega) (by omega)
  rw [bvF h] at h1
  refine Fn.of [some (.ref 92), some (iv x), some (iv y), none, none] rfl (by decide) (Nat.le_of_ble_eq_true rfl) rfl ?_
  refine g_aload0 dX6_setLimits_0 ?_
  refine g_iload1 dX6_setLimits_1 ?_
  refine g_iload2 dX6_setLimits_2 ?_
  refine f_cS2w (h1) oY_X6_areLimits oT_X6_areLimits lk_X6_354 rfl dX6_setLimits_3 rfl (Or.inl rfl) ?_
  refine g_iconst dX6_setLimits_6 ?_
  refine f_cV2x (passes_01) rfl (by decide) rfl oY_X6_passes oI_X6_passes lk_X6_285 rfl dX6_setLimits_7 rfl (Or.inl rfl) ?_
  refine g_if_ne ⟨by decide, by decide⟩ (tgt := 15) dX6_setLimits_10 rfl (fun h10 => absurd h10 (by decide)) (fun h10 => ?_)
  refine g_iconst dX6_setLimits_13 ?_
  refine g_iretI rfl dX6_setLimits_14 ?_
  exact Fo.ret rfl (md_th (Md.refl σ)) up_eq
theorem setCosts_q {B : Int} {s : Int → Int} (ho : SOK B s) (hs : σ 93 = s) {n : Nat} (hn : σ 92 5 = (n : Int)) (h8 : n ≤ 8) {x y z : Int} (h : (1 ≤ x ∧ x ≤ 9) ∧ (1 ≤ y ∧ y ≤ 9) ∧ 0 ≤ z ∧ z ≤ 9) : Ms g zX6_setCosts [.ref 92, iv x, iv y, iv z] σ l (iv (s 6)) (su (su (su s 6 x) 7 y) 8 z) (nP n) (pP n s (pr σ)) := by
  have hs0 : up σ 92 6 0 93 = s := (up_n (by decide)).trans hs
  have hM0 : Md σ (up σ 92 6 0) := md_th (Md.refl σ)
  have he0 : up σ 92 6 0 92 6 = 0 := up_eq
  have hp3 := p3_le ho.h7
  have hp0 := p3_pos (wH s)
  have hn40 := ho.n40
  have hnI := ho.nI
  have hH7 := ho.h7
  have hHI := ho.hI
  have hb4 := ho.halves
  have hb5 := ho.crosses
  have h1 := isIn_ok (g := g) (σ := σ) (l := l) (x := x) (a := 1) (b := 9) (by omega) (by decide) (by decide)
  rw [bvT h.1] at h1
  have h2 := isIn_ok (g := g) (σ := σ) (l := l) (x := y) (a := 1) (b := 9) (by omega) (by decide) (by decide)
  rw [bvT h.2.1] at h2
  have h3 := isIn_ok (g := g) (σ := σ) (l := l) (x := z) (a := 0) (b := 9) (by omega) (by decide) (by decide)
  rw [bvT h.2.2] at h3
  refine Fn.of [some (.ref 92), some (iv x), some (iv y), some (iv z), none] rfl (by decide) (Nat.le_of_ble_eq_true rfl) rfl ?_
  refine g_aload0 dX6_setCosts_0 ?_
  refine g_iload1 dX6_setCosts_1 ?_
  refine g_i2l ⟨by omega, by omega⟩ dX6_setCosts_2 ?_
  refine g_lconst1 dX6_setCosts_3 ?_
  refine g_ldc2 (v := Int64.ofInt (9)) kl_X6_374 dX6_setCosts_4 ?_
  refine f_cS3w (h1) oY_X6_isIn oT_X6_isIn lk_X6_83 rfl dX6_setCosts_7 rfl (Or.inl rfl) ?_
  refine g_if_eq ⟨by decide, by decide⟩ (tgt := 41) dX6_setCosts_10 rfl (fun h10 => absurd h10 (by decide)) (fun h10 => ?_)
  refine g_iload2 dX6_setCosts_13 ?_
  refine g_i2l ⟨by omega, by omega⟩ dX6_setCosts_14 ?_
  refine g_lconst1 dX6_setCosts_15 ?_
  refine g_ldc2 (v := Int64.ofInt (9)) kl_X6_374 dX6_setCosts_16 ?_
  refine f_cS3w (h2) oY_X6_isIn oT_X6_isIn lk_X6_83 rfl dX6_setCosts_19 rfl (Or.inl rfl) ?_
  refine g_if_eq ⟨by decide, by decide⟩ (tgt := 41) dX6_setCosts_22 rfl (fun h22 => absurd h22 (by decide)) (fun h22 => ?_)
  refine g_iload3 dX6_setCosts_25 ?_
  refine g_i2l ⟨by omega, by omega⟩ dX6_setCosts_26 ?_
  refine g_lconst0 dX6_setCosts_27 ?_
  refine g_ldc2 (v := Int64.ofInt (9)) kl_X6_374 dX6_setCosts_28 ?_
  refine f_cS3w (h3) oY_X6_isIn oT_X6_isIn lk_X6_83 rfl dX6_setCosts_31 rfl (Or.inl rfl) ?_
  refine g_if_eq ⟨by decide, by decide⟩ (tgt := 41) dX6_setCosts_34 rfl (fun h34 => absurd h34 (by decide)) (fun h34 => ?_)
  refine g_iconst dX6_setCosts_37 ?_
  refine g_goto (tgt := 42) dX6_setCosts_38 rfl ?_
  refine g_iconst dX6_setCosts_42 ?_
  refine f_cV2x (passes_11) rfl (by decide) rfl oY_X6_passes oI_X6_passes lk_X6_285 rfl dX6_setCosts_43 rfl (Or.inl rfl) ?_
  refine g_if_ne ⟨by decide, by decide⟩ (tgt := 51) dX6_setCosts_46 rfl (fun h46 => ?_) (fun h46 => absurd h46 (by decide))
  refine g_aload0 dX6_setCosts_51 ?_
  refine g_bipush dX6_setCosts_52 (by decide) ?_
  refine g_iload1 dX6_setCosts_54 ?_
  refine f_cV2q (becomes_m (B := B) hM0 hs hn h8 (by omega)) rfl (by decide) rfl oY_X6_becomes oI_X6_becomes lk_X6_367 rfl dX6_setCosts_55 (by omega) (by omega) rfl (Or.inl rfl) (fun σ55 l55 h55 => ?_)
  have el1 := h55.1
  subst el1
  have hs1 := h55.2.1
  have hS1 := h55.2.2.1
  have he1 : σ55 92 6 = 0 := h55.2.2.2.trans he0
  refine g_istore4 dX6_setCosts_58 rfl (by decide) ?_
  refine g_aload0 dX6_setCosts_60 ?_
  refine f_getr (r := 93) rfl (by decide) rfl rfl fl_X6_7 dX6_setCosts_61 ?_
  refine g_bipush dX6_setCosts_64 (by decide) ?_
  refine g_iload2 dX6_setCosts_66 ?_
  refine f_iast rfl (by decide) ⟨by omega, by show _ < ((67 : Nat) : Int); omega⟩ dX6_setCosts_67 ?_
  refine g_aload0 dX6_setCosts_68 ?_
  refine f_getr (r := 93) rfl (by decide) rfl rfl fl_X6_7 dX6_setCosts_69 ?_
  refine g_bipush dX6_setCosts_72 (by decide) ?_
  refine g_iload3 dX6_setCosts_74 ?_
  refine f_iast rfl (by decide) ⟨by omega, by show _ < ((67 : Nat) : Int); omega⟩ dX6_setCosts_75 ?_
  refine g_iload4 dX6_setCosts_76 ?_
  refine g_iretI rfl dX6_setCosts_78 ?_
  exact Ms.ret rfl ((hS1.set 7 y).set 8 z) (by rw [up_n (by decide), up_n (by decide)]; exact he1)
theorem setCosts_r {B : Int} {s : Int → Int} (ho : SOK B s) (hs : σ 93 = s) {x y z : Int} (hx : R32 x) (hy : R32 y) (hz : R32 z) (h : ¬ ((1 ≤ x ∧ x ≤ 9) ∧ (1 ≤ y ∧ y ≤ 9) ∧ 0 ≤ z ∧ z ≤ 9)) : Fo g zX6_setCosts [.ref 92, iv x, iv y, iv z] σ l (iv 0) 1 := by
  have hs0 : up σ 92 6 0 93 = s := (up_n (by decide)).trans hs
  have hM0 : Md σ (up σ 92 6 0) := md_th (Md.refl σ)
  have he0 : up σ 92 6 0 92 6 = 0 := up_eq
  have hp3 := p3_le ho.h7
  have hp0 := p3_pos (wH s)
  have hn40 := ho.n40
  have hnI := ho.nI
  have hH7 := ho.h7
  have hHI := ho.hI
  have hb4 := ho.halves
  have hb5 := ho.crosses
  refine Fn.of [some (.ref 92), some (iv x), some (iv y), some (iv z), none] rfl (by decide) (Nat.le_of_ble_eq_true rfl) rfl ?_
  refine g_aload0 dX6_setCosts_0 ?_
  refine g_iload1 dX6_setCosts_1 ?_
  refine g_i2l ⟨by omega, by omega⟩ dX6_setCosts_2 ?_
  refine g_lconst1 dX6_setCosts_3 ?_
  refine g_ldc2 (v := Int64.ofInt (9)) kl_X6_374 dX6_setCosts_4 ?_
  refine f_cS3w (isIn_ok (by omega) (by decide) (by decide)) oY_X6_isIn oT_X6_isIn lk_X6_83 rfl dX6_setCosts_7 rfl (Or.inl rfl) ?_
  refine g_ifeqB (tgt := 41) dX6_setCosts_10 rfl (fun h10 => ?_) (fun h10 => ?_)
  · refine g_iconst dX6_setCosts_41 ?_
    refine g_iconst dX6_setCosts_42 ?_
    refine f_cV2x (passes_01) rfl (by decide) rfl oY_X6_passes oI_X6_passes lk_X6_285 rfl dX6_setCosts_43 rfl (Or.inl rfl) ?_
    refine g_if_ne ⟨by decide, by decide⟩ (tgt := 51) dX6_setCosts_46 rfl (fun h46 => absurd h46 (by decide)) (fun h46 => ?_)
    refine g_iconst dX6_setCosts_49 ?_
    refine g_iretI rfl dX6_setCosts_50 ?_
    exact Fo.ret rfl (md_th (Md.refl σ)) up_eq
  · refine g_iload2 dX6_setCosts_13 ?_
    refine g_i2l ⟨by omega, by omega⟩ dX6_setCosts_14 ?_
    refine g_lconst1 dX6_setCosts_15 ?_
    refine g_ldc2 (v := Int64.ofInt (9)) kl_X6_374 dX6_setCosts_16 ?_
    refine f_cS3w (isIn_ok (by omega) (by decide) (by decide)) oY_X6_isIn oT_X6_isIn lk_X6_83 rfl dX6_setCosts_19 rfl (Or.inl rfl) ?_
    refine g_ifeqB (tgt := 41) dX6_setCosts_22 rfl (fun h22 => ?_) (fun h22 => ?_)
    · refine g_iconst dX6_setCosts_41 ?_
      refine g_iconst dX6_setCosts_42 ?_
      refine f_cV2x (passes_01) rfl (by decide) rfl oY_X6_passes oI_X6_passes lk_X6_285 rfl dX6_setCosts_43 rfl (Or.inl rfl) ?_
      refine g_if_ne ⟨by decide, by decide⟩ (tgt := 51) dX6_setCosts_46 rfl (fun h46 => absurd h46 (by decide)) (fun h46 => ?_)
      refine g_iconst dX6_setCosts_49 ?_
      refine g_iretI rfl dX6_setCosts_50 ?_
      exact Fo.ret rfl (md_th (Md.refl σ)) up_eq
    · refine g_iload3 dX6_setCosts_25 ?_
      refine g_i2l ⟨by omega, by omega⟩ dX6_setCosts_26 ?_
      refine g_lconst0 dX6_setCosts_27 ?_
      refine g_ldc2 (v := Int64.ofInt (9)) kl_X6_374 dX6_setCosts_28 ?_
      refine f_cS3w (isIn_ok (by omega) (by decide) (by decide)) oY_X6_isIn oT_X6_isIn lk_X6_83 rfl dX6_setCosts_31 rfl (Or.inl rfl) ?_
      refine g_ifeqB (tgt := 41) dX6_setCosts_34 rfl (fun h34 => ?_) (fun h34 => ?_)
      · refine g_iconst dX6_setCosts_41 ?_
        refine g_iconst dX6_setCosts_42 ?_
        refine f_cV2x (passes_01) rfl (by decide) rfl oY_X6_passes oI_X6_passes lk_X6_285 rfl dX6_setCosts_43 rfl (Or.inl rfl) ?_
        refine g_if_ne ⟨by decide, by decide⟩ (tgt := 51) dX6_setCosts_46 rfl (fun h46 => absurd h46 (by decide)) (fun h46 => ?_)
        refine g_iconst dX6_setCosts_49 ?_
        refine g_iretI rfl dX6_setCosts_50 ?_
        exact Fo.ret rfl (md_th (Md.refl σ)) up_eq
      · refine g_iconst dX6_setCosts_37 ?_
        refine g_goto (tgt := 42) dX6_setCosts_38 rfl ?_
        refine g_iconst dX6_setCosts_42 ?_
        refine f_cV2x (passes_11) rfl (by decide) rfl oY_X6_passes oI_X6_passes lk_X6_285 rfl dX6_setCosts_43 rfl (Or.inl rfl) ?_
        refine g_if_ne ⟨by decide, by decide⟩ (tgt := 51) dX6_setCosts_46 rfl (fun h46 => ?_) (fun h46 => absurd h46 (by decide))
        exact absurd h (fun z => z ⟨by omega, by omega, by omega⟩)
theorem rewind_q {B : Int} {s : Int → Int} (ho : SOK B s) (hs : σ 93 = s) {n : Nat} (hn : σ 92 5 = (n : Int)) (h8 : n ≤ 8) {x : Int} (h : x = 0 ∨ 0 ≤ x ∧ x < s 9) : Ms g zX6_rewind [.ref 92, iv x] σ l (iv (s 12)) (su s 12 x) (nP n) (pP n s (pr σ)) := by
  have hs0 : up σ 92 6 0 93 = s := (up_n (by decide)).trans hs
  have hM0 : Md σ (up σ 92 6 0) := md_th (Md.refl σ)
  have he0 : up σ 92 6 0 92 6 = 0 := up_eq
  have hp3 := p3_le ho.h7
  have hp0 := p3_pos (wH s)
  have hn40 := ho.n40
  have hnI := ho.nI
  have hH7 := ho.h7
  have hHI := ho.hI
  have hb4 := ho.halves
  have hb5 := ho.crosses
  have h1 := isNote_m (g := g) (l := l) ho hs (p := x) (by omega)
  refine Fn.of [some (.ref 92), some (iv x)] rfl (by decide) (Nat.le_of_ble_eq_true rfl) rfl ?_
  refine g_aload0 dX6_rewind_0 ?_
  refine g_iload1 dX6_rewind_1 ?_
  refine g_if_eq ⟨by omega, by omega⟩ (tgt := 13) dX6_rewind_2 rfl (fun h2 => ?_) (fun h2 => ?_)
  · refine g_iconst dX6_rewind_13 ?_
    refine g_goto (tgt := 18) dX6_rewind_14 rfl ?_
    refine g_iconst dX6_rewind_18 ?_
    refine f_cV2x (passes_11) rfl (by decide) rfl oY_X6_passes oI_X6_passes lk_X6_285 rfl dX6_rewind_19 rfl (Or.inl rfl) ?_
    refine g_if_eq ⟨by decide, by decide⟩ (tgt := 35) dX6_rewind_22 rfl (fun h22 => absurd h22 (by decide)) (fun h22 => ?_)
    refine g_aload0 dX6_rewind_25 ?_
    refine g_bipush dX6_rewind_26 (by decide) ?_
    refine g_iload1 dX6_rewind_28 ?_
    refine f_cV2q (becomes_m (B := B) hM0 hs hn h8 (by omega)) rfl (by decide) rfl oY_X6_becomes oI_X6_becomes lk_X6_367 rfl dX6_rewind_29 (by omega) (by omega) rfl (Or.inl rfl) (fun σ29 l29 h29 => ?_)
    have el1 := h29.1
    subst el1
    have hs1 := h29.2.1
    have hS1 := h29.2.2.1
    have he1 : σ29 92 6 = 0 := h29.2.2.2.trans he0
    refine g_goto (tgt := 36) dX6_rewind_32 rfl ?_
    refine g_iretI rfl dX6_rewind_36 ?_
    exact Ms.ret rfl hS1 he1
  · refine g_aload0 dX6_rewind_5 ?_
    refine g_iload1 dX6_rewind_6 ?_
    refine f_cV1w (h1) rfl (by decide) rfl oY_X6_isNote oI_X6_isNote lk_X6_327 rfl dX6_rewind_7 rfl (Or.inl rfl) ?_
    refine g_ifeqB (tgt := 17) dX6_rewind_10 rfl (fun h10 => absurd h10 (fun z => z (by omega))) (fun h10 => ?_)
    refine g_iconst dX6_rewind_13 ?_
    refine g_goto (tgt := 18) dX6_rewind_14 rfl ?_
    refine g_iconst dX6_rewind_18 ?_
    refine f_cV2x (passes_11) rfl (by decide) rfl oY_X6_passes oI_X6_passes lk_X6_285 rfl dX6_rewind_19 rfl (Or.inl rfl) ?_
    refine g_if_eq ⟨by decide, by decide⟩ (tgt := 35) dX6_rewind_22 rfl (fun h22 => absurd h22 (by decide)) (fun h22 => ?_)
    refine g_aload0 dX6_rewind_25 ?_
    refine g_bipush dX6_rewind_26 (by decide) ?_
    refine g_iload1 dX6_rewind_28 ?_
    refine f_cV2q (becomes_m (B := B) hM0 hs hn h8 (by omega)) rfl (by decide) rfl oY_X6_becomes oI_X6_becomes lk_X6_367 rfl dX6_rewind_29 (by omega) (by omega) rfl (Or.inl rfl) (fun σ29 l29 h29 => ?_)
    have el1 := h29.1
    subst el1
    have hs1 := h29.2.1
    have hS1 := h29.2.2.1
    have he1 : σ29 92 6 = 0 := h29.2.2.2.trans he0
    refine g_goto (tgt := 36) dX6_rewind_32 rfl ?_
    refine g_iretI rfl dX6_rewind_36 ?_
    exact Ms.ret rfl hS1 he1
theorem rewind_r {B : Int} {s : Int → Int} (ho : SOK B s) (hs : σ 93 = s) {x : Int} (hx : R32 x) (h : ¬ (x = 0 ∨ 0 ≤ x ∧ x < s 9)) : Fo g zX6_rewind [.ref 92, iv x] σ l (iv 0) 1 := by
  have hs0 : up σ 92 6 0 93 = s := (up_n (by decide)).trans hs
  have hM0 : Md σ (up σ 92 6 0) := md_th (Md.refl σ)
  have he0 : up σ 92 6 0 92 6 = 0 := up_eq
  have hp3 := p3_le ho.h7
  have hp0 := p3_pos (wH s)
  have hn40 := ho.n40
  have hnI := ho.nI
  have hH7 := ho.h7
  have hHI := ho.hI
  have hb4 := ho.halves
  have hb5 := ho.crosses
  have h1 := isNote_m (g := g) (l := l) ho hs (p := x) (by omega)
  rw [bvF (by omega)] at h1
  refine Fn.of [some (.ref 92), some (iv x)] rfl (by decide) (Nat.le_of_ble_eq_true rfl) rfl ?_
  refine g_aload0 dX6_rewind_0 ?_
  refine g_iload1 dX6_rewind_1 ?_
  refine g_if_eq ⟨by omega, by omega⟩ (tgt := 13) dX6_rewind_2 rfl (fun h2 => absurd h2 (by omega)) (fun h2 => ?_)
  refine g_aload0 dX6_rewind_5 ?_
  refine g_iload1 dX6_rewind_6 ?_
  refine f_cV1w (h1) rfl (by decide) rfl oY_X6_isNote oI_X6_isNote lk_X6_327 rfl dX6_rewind_7 rfl (Or.inl rfl) ?_
  refine g_if_eq ⟨by decide, by decide⟩ (tgt := 17) dX6_rewind_10 rfl (fun h10 => ?_) (fun h10 => absurd h10 (by decide))
  refine g_iconst dX6_rewind_17 ?_
  refine g_iconst dX6_rewind_18 ?_
  refine f_cV2x (passes_01) rfl (by decide) rfl oY_X6_passes oI_X6_passes lk_X6_285 rfl dX6_rewind_19 rfl (Or.inl rfl) ?_
  refine g_if_eq ⟨by decide, by decide⟩ (tgt := 35) dX6_rewind_22 rfl (fun h22 => ?_) (fun h22 => absurd h22 (by decide))
  refine g_iconst dX6_rewind_35 ?_
  refine g_iretI rfl dX6_rewind_36 ?_
  exact Fo.ret rfl (md_th (Md.refl σ)) up_eq
theorem isToneOrRest_m {t : Int} (hx : R32 t) : Fw g zX6_isToneOrRest [.ref 92, iv t] σ l (bv (-1 ≤ t ∧ t ≤ 24)) := by
  refine Fn.of [some (.ref 92), some (iv t)] rfl (by decide) (Nat.le_of_ble_eq_true rfl) rfl ?_
  refine g_iload1 dX6_isToneOrRest_0 ?_
  refine g_iconst dX6_isToneOrRest_1 ?_
  refine g_icmp_eq hx ⟨by decide, by decide⟩ (tgt := 13) dX6_isToneOrRest_2 rfl (fun h2 => ?_) (fun h2 => ?_)
  · refine g_iconst dX6_isToneOrRest_13 ?_
    refine g_goto (tgt := 18) dX6_isToneOrRest_14 rfl ?_
    refine g_iretB (Or.inr rfl) rfl dX6_isToneOrRest_18 ?_
    first
      | exact Fw.ret1 ⟨by omega, by omega⟩
      | exact Fw.ret0 (fun z => by omega)
  · refine g_aload0 dX6_isToneOrRest_5 ?_
    refine g_iload1 dX6_isToneOrRest_6 ?_
    refine f_cV1w (isTone_m hx) rfl (by decide) rfl oY_X6_isTone oI_X6_isTone lk_X6_165 rfl dX6_isToneOrRest_7 rfl (Or.inl rfl) ?_
    refine g_ifeqB (tgt := 17) dX6_isToneOrRest_10 rfl (fun h10 => ?_) (fun h10 => ?_)
    · refine g_iconst dX6_isToneOrRest_17 ?_
      refine g_iretB (Or.inl rfl) rfl dX6_isToneOrRest_18 ?_
      first
        | exact Fw.ret1 ⟨by omega, by omega⟩
        | exact Fw.ret0 (fun z => by omega)
    · refine g_iconst dX6_isToneOrRest_13 ?_
      refine g_goto (tgt := 18) dX6_isToneOrRest_14 rfl ?_
      refine g_iretB (Or.inr rfl) rfl dX6_isToneOrRest_18 ?_
      first
        | exact Fw.ret1 ⟨by omega, by omega⟩
        | exact Fw.ret0 (fun z => by omega)
theorem addNote_q {B : Int} {s : Int → Int} (ho : SOK B s) (hs : σ 93 = s) {n : Nat} (hn : σ 92 5 = (n : Int)) (h8 : n ≤ 8) {t : Int} (h : -1 ≤ t ∧ t ≤ 24) (h9 : s 9 < 40) : Ms g zX6_addNote [.ref 92, iv t] σ l (iv (s 9)) (adS s t) (nP n) (pP n s (pr σ)) := by
  have hs0 : up σ 92 6 0 93 = s := (up_n (by decide)).trans hs
  have hM0 : Md σ (up σ 92 6 0) := md_th (Md.refl σ)
  have he0 : up σ 92 6 0 92 6 = 0 := up_eq
  have hp3 := p3_le ho.h7
  have hp0 := p3_pos (wH s)
  have hn40 := ho.n40
  have hnI := ho.nI
  have hH7 := ho.h7
  have hHI := ho.hI
  have hb4 := ho.halves
  have hb5 := ho.crosses
  have h2 := isToneOrRest_m (g := g) (σ := σ) (l := l) (t := t) (by omega)
  rw [bvT h] at h2
  have h9r := ho.notes
  refine Fn.of [some (.ref 92), some (iv t)] rfl (by decide) (Nat.le_of_ble_eq_true rfl) rfl ?_
  refine g_aload0 dX6_addNote_0 ?_
  refine g_aload0 dX6_addNote_1 ?_
  refine g_iload1 dX6_addNote_2 ?_
  refine f_cV1w (h2) rfl (by decide) rfl oY_X6_isToneOrRest oI_X6_isToneOrRest lk_X6_376 rfl dX6_addNote_3 rfl (Or.inl rfl) ?_
  refine g_iconst dX6_addNote_6 ?_
  refine f_cV2x (passes_11) rfl (by decide) rfl oY_X6_passes oI_X6_passes lk_X6_285 rfl dX6_addNote_7 rfl (Or.inl rfl) ?_
  refine g_if_ne ⟨by decide, by decide⟩ (tgt := 15) dX6_addNote_10 rfl (fun h10 => ?_) (fun h10 => absurd h10 (by decide))
  refine g_aload0 dX6_addNote_15 ?_
  refine f_getr (r := 93) rfl (by decide) rfl rfl fl_X6_7 dX6_addNote_16 ?_
  first | rw [hs0] | rw [hsk] | skip
  refine g_bipush dX6_addNote_19 (by decide) ?_
  refine f_iald rfl (by decide) ⟨by omega, by show _ < ((67 : Nat) : Int); omega⟩ dX6_addNote_21 ?_
  first | rw [hs0] | rw [hsk] | skip
  refine g_bipush dX6_addNote_22 (by decide) ?_
  refine g_icmp_ne ⟨by omega, by omega⟩ ⟨by omega, by omega⟩ (tgt := 30) dX6_addNote_24 rfl (fun h24 => ?_) (fun h24 => absurd h24 (by omega))
  refine g_aload0 dX6_addNote_30 ?_
  refine f_cV0m (keepsP (B := B) hM0 hs hn h8) rfl (by decide) rfl oY_X6_keeps oI_X6_keeps lk_X6_364 rfl dX6_addNote_31 (by omega) (by omega) rfl (Or.inl rfl) (fun σ31 l31 h31 => ?_)
  have elk := h31.1
  subst elk
  have hsk := h31.2.1
  have hSk := h31.2.2.1
  have hek : σ31 92 6 = 0 := h31.2.2.2.trans he0
  refine g_aload0 dX6_addNote_34 ?_
  refine f_getr (r := 93) rfl (by decide) rfl rfl fl_X6_7 dX6_addNote_35 ?_
  first | rw [hs0] | rw [hsk] | skip
  refine g_bipush dX6_addNote_38 (by decide) ?_
  refine g_aload0 dX6_addNote_40 ?_
  refine f_getr (r := 93) rfl (by decide) rfl rfl fl_X6_7 dX6_addNote_41 ?_
  first | rw [hs0] | rw [hsk] | skip
  refine g_bipush dX6_addNote_44 (by decide) ?_
  refine f_iald rfl (by decide) ⟨by omega, by show _ < ((67 : Nat) : Int); omega⟩ dX6_addNote_46 ?_
  first | rw [hs0] | rw [hsk] | skip
  refine g_iadd dX6_addNote_47 ?_
  refine g_iload1 dX6_addNote_48 ?_
  refine f_iast rfl (by decide) ⟨by omega, by show _ < ((67 : Nat) : Int); omega⟩ dX6_addNote_49 ?_
  refine g_aload0 dX6_addNote_50 ?_
  refine f_getr (r := 93) rfl (by decide) rfl rfl fl_X6_7 dX6_addNote_51 ?_
  first | rw [hs0] | rw [hsk] | skip
  refine g_bipush dX6_addNote_54 (by decide) ?_
  refine g_dup2 rfl rfl dX6_addNote_56 ?_
  refine f_iald rfl (by decide) ⟨by omega, by show _ < ((67 : Nat) : Int); omega⟩ dX6_addNote_57 ?_
  first | rw [hs0] | rw [hsk] | skip
  rw [up_ne (fun z => by omega), hsk]
  refine g_iconst dX6_addNote_58 ?_
  refine g_iadd dX6_addNote_59 ?_
  refine f_iast rfl (by decide) ⟨by omega, by show _ < ((67 : Nat) : Int); omega⟩ dX6_addNote_60 ?_
  refine g_aload0 dX6_addNote_61 ?_
  refine f_getr (r := 93) rfl (by decide) rfl rfl fl_X6_7 dX6_addNote_62 ?_
  first | rw [hs0] | rw [hsk] | skip
  refine g_bipush dX6_addNote_65 (by decide) ?_
  refine f_iald rfl (by decide) ⟨by omega, by show _ < ((67 : Nat) : Int); omega⟩ dX6_addNote_67 ?_
  first | rw [hs0] | rw [hsk] | skip
  rw [up_eq]
  refine g_iconst dX6_addNote_68 ?_
  refine g_isub dX6_addNote_69 ?_
  refine g_iretI rfl dX6_addNote_70 ?_
  exact Ms.ret (congrArg iv (by omega)) ((hSk.set (27 + s 9) t).set 9 (s 9 + 1)) (by rw [up_n (by decide), up_n (by decide)]; exact hek)
theorem addNote_f {B : Int} {s : Int → Int} (ho : SOK B s) (hs : σ 93 = s) {t : Int} (h : -1 ≤ t ∧ t ≤ 24) (h9 : s 9 = 40) : Fo g zX6_addNote [.ref 92, iv t] σ l (iv (-2)) 0 := by
  have hs0 : up σ 92 6 0 93 = s := (up_n (by decide)).trans hs
  have hM0 : Md σ (up σ 92 6 0) := md_th (Md.refl σ)
  have he0 : up σ 92 6 0 92 6 = 0 := up_eq
  have hp3 := p3_le ho.h7
  have hp0 := p3_pos (wH s)
  have hn40 := ho.n40
  have hnI := ho.nI
  have hH7 := ho.h7
  have hHI := ho.hI
  have hb4 := ho.halves
  have hb5 := ho.crosses
  have h2 := isToneOrRest_m (g := g) (σ := σ) (l := l) (t := t) (by omega)
  rw [bvT h] at h2
  refine Fn.of [some (.ref 92), some (iv t)] rfl (by decide) (Nat.le_of_ble_eq_true rfl) rfl ?_
  refine g_aload0 dX6_addNote_0 ?_
  refine g_aload0 dX6_addNote_1 ?_
  refine g_iload1 dX6_addNote_2 ?_
  refine f_cV1w (h2) rfl (by decide) rfl oY_X6_isToneOrRest oI_X6_isToneOrRest lk_X6_376 rfl dX6_addNote_3 rfl (Or.inl rfl) ?_
  refine g_iconst dX6_addNote_6 ?_
  refine f_cV2x (passes_11) rfl (by decide) rfl oY_X6_passes oI_X6_passes lk_X6_285 rfl dX6_addNote_7 rfl (Or.inl rfl) ?_
  refine g_if_ne ⟨by decide, by decide⟩ (tgt := 15) dX6_addNote_10 rfl (fun h10 => ?_) (fun h10 => absurd h10 (by decide))
  refine g_aload0 dX6_addNote_15 ?_
  refine f_getr (r := 93) rfl (by decide) rfl rfl fl_X6_7 dX6_addNote_16 ?_
  try rw [hs0]
  refine g_bipush dX6_addNote_19 (by decide) ?_
  refine f_iald rfl (by decide) ⟨by omega, by show _ < ((67 : Nat) : Int); omega⟩ dX6_addNote_21 ?_
  try rw [hs0]
  refine g_bipush dX6_addNote_22 (by decide) ?_
  refine g_icmp_ne ⟨by omega, by omega⟩ ⟨by omega, by omega⟩ (tgt := 30) dX6_addNote_24 rfl (fun h24 => absurd h24 (by omega)) (fun h24 => ?_)
  refine g_bipush dX6_addNote_27 (by decide) ?_
  refine g_iretI rfl dX6_addNote_29 ?_
  exact Fo.ret rfl hM0 he0
theorem addNote_r {B : Int} {s : Int → Int} (ho : SOK B s) (hs : σ 93 = s) {t : Int} (hx : R32 t) (h : ¬ (-1 ≤ t ∧ t ≤ 24)) : Fo g zX6_addNote [.ref 92, iv t] σ l (iv 0) 1 := by
  have hs0 : up σ 92 6 0 93 = s := (up_n (by decide)).trans hs
  have hM0 : Md σ (up σ 92 6 0) := md_th (Md.refl σ)
  have he0 : up σ 92 6 0 92 6 = 0 := up_eq
  have hp3 := p3_le ho.h7
  have hp0 := p3_pos (wH s)
  have hn40 := ho.n40
  have hnI := ho.nI
  have hH7 := ho.h7
  have hHI := ho.hI
  have hb4 := ho.halves
  have hb5 := ho.crosses
  have h2 := isToneOrRest_m (g := g) (σ := σ) (l := l) (t := t) (by omega)
  rw [bvF h] at h2
  refine Fn.of [some (.ref 92), some (iv t)] rfl (by decide) (Nat.le_of_ble_eq_true rfl) rfl ?_
  refine g_aload0 dX6_addNote_0 ?_
  refine g_aload0 dX6_addNote_1 ?_
  refine g_iload1 dX6_addNote_2 ?_
  refine f_cV1w (h2) rfl (by decide) rfl oY_X6_isToneOrRest oI_X6_isToneOrRest lk_X6_376 rfl dX6_addNote_3 rfl (Or.inl rfl) ?_
  refine g_iconst dX6_addNote_6 ?_
  refine f_cV2x (passes_01) rfl (by decide) rfl oY_X6_passes oI_X6_passes lk_X6_285 rfl dX6_addNote_7 rfl (Or.inl rfl) ?_
  refine g_if_ne ⟨by decide, by decide⟩ (tgt := 15) dX6_addNote_10 rfl (fun h10 => absurd h10 (by decide)) (fun h10 => ?_)
  refine g_iconst dX6_addNote_13 ?_
  refine g_iretI rfl dX6_addNote_14 ?_
  exact Fo.ret rfl (md_th (Md.refl σ)) up_eq
theorem setNote_q {B : Int} {s : Int → Int} (ho : SOK B s) (hs : σ 93 = s) {n : Nat} (hn : σ 92 5 = (n : Int)) (h8 : n ≤ 8) {k : Nat} (hk : k < wN s) {t : Int} (h : -1 ≤ t ∧ t ≤ 24) : Ms g zX6_setNote [.ref 92, iv (k : Int), iv t] σ l (iv (wTu s k)) (su s (27 + (k : Int)) t) (nP n) (pP n s (pr σ)) := by
  have hs0 : up σ 92 6 0 93 = s := (up_n (by decide)).trans hs
  have hM0 : Md σ (up σ 92 6 0) := md_th (Md.refl σ)
  have he0 : up σ 92 6 0 92 6 = 0 := up_eq
  have hp3 := p3_le ho.h7
  have hp0 := p3_pos (wH s)
  have hn40 := ho.n40
  have hnI := ho.nI
  have hH7 := ho.h7
  have hHI := ho.hI
  have hb4 := ho.halves
  have hb5 := ho.crosses
  have h1 := isNote_m (g := g) (l := l) ho hs (p := (k : Int)) (by omega)
  rw [bvT (by omega)] at h1
  have h2 := isToneOrRest_m (g := g) (σ := σ) (l := l) (t := t) (by omega)
  rw [bvT h] at h2
  refine Fn.of [some (.ref 92), some (iv (k : Int)), some (iv t)] rfl (by decide) (Nat.le_of_ble_eq_true rfl) rfl ?_
  refine g_aload0 dX6_setNote_0 ?_
  refine g_aload0 dX6_setNote_1 ?_
  refine g_iload1 dX6_setNote_2 ?_
  refine f_cV1w (h1) rfl (by decide) rfl oY_X6_isNote oI_X6_isNote lk_X6_327 rfl dX6_setNote_3 rfl (Or.inl rfl) ?_
  refine g_aload0 dX6_setNote_6 ?_
  refine g_iload2 dX6_setNote_7 ?_
  refine f_cV1w (h2) rfl (by decide) rfl oY_X6_isToneOrRest oI_X6_isToneOrRest lk_X6_376 rfl dX6_setNote_8 rfl (Or.inl rfl) ?_
  refine f_cV2x (passes_11) rfl (by decide) rfl oY_X6_passes oI_X6_passes lk_X6_285 rfl dX6_setNote_11 rfl (Or.inl rfl) ?_
  refine g_if_eq ⟨by decide, by decide⟩ (tgt := 29) dX6_setNote_14 rfl (fun h14 => absurd h14 (by decide)) (fun h14 => ?_)
  refine g_aload0 dX6_setNote_17 ?_
  refine g_bipush dX6_setNote_18 (by decide) ?_
  refine g_iload1 dX6_setNote_20 ?_
  refine g_iadd dX6_setNote_21 ?_
  refine g_iload2 dX6_setNote_22 ?_
  refine f_cV2q (becomes_m (B := B) hM0 hs hn h8 (by omega)) rfl (by decide) rfl oY_X6_becomes oI_X6_becomes lk_X6_367 rfl dX6_setNote_23 (by omega) (by omega) rfl (Or.inl rfl) (fun σ23 l23 h23 => ?_)
  have el1 := h23.1
  subst el1
  have hs1 := h23.2.1
  have hS1 := h23.2.2.1
  have he1 : σ23 92 6 = 0 := h23.2.2.2.trans he0
  refine g_goto (tgt := 30) dX6_setNote_26 rfl ?_
  refine g_iretI rfl dX6_setNote_30 ?_
  exact Ms.ret rfl hS1 he1
theorem setNote_r1 {B : Int} {s : Int → Int} (ho : SOK B s) (hs : σ 93 = s) {x t : Int} (hx : R32 x) (ht : R32 t) (h : ¬ (0 ≤ x ∧ x < s 9)) : Fo g zX6_setNote [.ref 92, iv x, iv t] σ l (iv 0) 1 := by
  have hs0 : up σ 92 6 0 93 = s := (up_n (by decide)).trans hs
  have hM0 : Md σ (up σ 92 6 0) := md_th (Md.refl σ)
  have he0 : up σ 92 6 0 92 6 = 0 := up_eq
  have hp3 := p3_le ho.h7
  have hp0 := p3_pos (wH s)
  have hn40 := ho.n40
  have hnI := ho.nI
  have hH7 := ho.h7
  have hHI := ho.hI
  have hb4 := ho.halves
  have hb5 := ho.crosses
  have h1 := isNote_m (g := g) (l := l) ho hs (p := x) hx
  rw [bvF h] at h1
  refine Fn.of [some (.ref 92), some (iv x), some (iv t)] rfl (by decide) (Nat.le_of_ble_eq_true rfl) rfl ?_
  refine g_aload0 dX6_setNote_0 ?_
  refine g_aload0 dX6_setNote_1 ?_
  refine g_iload1 dX6_setNote_2 ?_
  refine f_cV1w (h1) rfl (by decide) rfl oY_X6_isNote oI_X6_isNote lk_X6_327 rfl dX6_setNote_3 rfl (Or.inl rfl) ?_
  refine g_aload0 dX6_setNote_6 ?_
  refine g_iload2 dX6_setNote_7 ?_
  refine f_cV1w (isToneOrRest_m ht) rfl (by decide) rfl oY_X6_isToneOrRest oI_X6_isToneOrRest lk_X6_376 rfl dX6_setNote_8 rfl (Or.inl rfl) ?_
  refine f_cV2x (passes_0) rfl (by decide) rfl oY_X6_passes oI_X6_passes lk_X6_285 rfl dX6_setNote_11 rfl (Or.inl rfl) ?_
  refine g_if_eq ⟨by decide, by decide⟩ (tgt := 29) dX6_setNote_14 rfl (fun h14 => ?_) (fun h14 => absurd h14 (by decide))
  refine g_iconst dX6_setNote_29 ?_
  refine g_iretI rfl dX6_setNote_30 ?_
  exact Fo.ret rfl (md_th (Md.refl σ)) up_eq
theorem setNote_r2 {B : Int} {s : Int → Int} (ho : SOK B s) (hs : σ 93 = s) {x t : Int} (hx : R32 x) (ht : R32 t) (h0 : 0 ≤ x ∧ x < s 9) (h : ¬ (-1 ≤ t ∧ t ≤ 24)) : Fo g zX6_setNote [.ref 92, iv x, iv t] σ l (iv 0) 2 := by
  have hs0 : up σ 92 6 0 93 = s := (up_n (by decide)).trans hs
  have hM0 : Md σ (up σ 92 6 0) := md_th (Md.refl σ)
  have he0 : up σ 92 6 0 92 6 = 0 := up_eq
  have hp3 := p3_le ho.h7
  have hp0 := p3_pos (wH s)
  have hn40 := ho.n40
  have hnI := ho.nI
  have hH7 := ho.h7
  have hHI := ho.hI
  have hb4 := ho.halves
  have hb5 := ho.crosses
  have h1 := isNote_m (g := g) (l := l) ho hs (p := x) hx
  rw [bvT h0] at h1
  have h2 := isToneOrRest_m (g := g) (σ := σ) (l := l) (t := t) (by omega)
  rw [bvF h] at h2
  refine Fn.of [some (.ref 92), some (iv x), some (iv t)] rfl (by decide) (Nat.le_of_ble_eq_true rfl) rfl ?_
  refine g_aload0 dX6_setNote_0 ?_
  refine g_aload0 dX6_setNote_1 ?_
  refine g_iload1 dX6_setNote_2 ?_
  refine f_cV1w (h1) rfl (by decide) rfl oY_X6_isNote oI_X6_isNote lk_X6_327 rfl dX6_setNote_3 rfl (Or.inl rfl) ?_
  refine g_aload0 dX6_setNote_6 ?_
  refine g_iload2 dX6_setNote_7 ?_
  refine f_cV1w (h2) rfl (by decide) rfl oY_X6_isToneOrRest oI_X6_isToneOrRest lk_X6_376 rfl dX6_setNote_8 rfl (Or.inl rfl) ?_
  refine f_cV2x (passes_10) rfl (by decide) rfl oY_X6_passes oI_X6_passes lk_X6_285 rfl dX6_setNote_11 rfl (Or.inl rfl) ?_
  refine g_if_eq ⟨by decide, by decide⟩ (tgt := 29) dX6_setNote_14 rfl (fun h14 => ?_) (fun h14 => absurd h14 (by decide))
  refine g_iconst dX6_setNote_29 ?_
  refine g_iretI rfl dX6_setNote_30 ?_
  exact Fo.ret rfl (md_th (Md.refl σ)) up_eq
theorem setHole_q {B : Int} {s : Int → Int} (ho : SOK B s) (hs : σ 93 = s) {n : Nat} (hn : σ 92 5 = (n : Int)) (h8 : n ≤ 8) {h : Nat} (hh : h < wH s) {x z : Int} (h1 : 1 ≤ x ∧ x ≤ s 0 - 1) (h2 : 2 ≤ z ∧ z ≤ 15) (hcd : ((h : Int) = 0 ∨ wPl s ((h : Int) - 1) < x) ∧ ((h : Int) = s 3 - 1 ∨ x < wPl s ((h : Int) + 1))) : Ms g zX6_setHole [.ref 92, iv (h : Int), iv x, iv z] σ l (iv (wPl s h)) (su (su s (13 + 2 * (h : Int)) x) (14 + 2 * (h : Int)) z) (nP n) (pP n s (pr σ)) := by
  have hs0 : up σ 92 6 0 93 = s := (up_n (by decide)).trans hs
  have hM0 : Md σ (up σ 92 6 0) := md_th (Md.refl σ)
  have he0 : up σ 92 6 0 92 6 = 0 := up_eq
  have hp3 := p3_le ho.h7
  have hp0 := p3_pos (wH s)
  have hn40 := ho.n40
  have hnI := ho.nI
  have hH7 := ho.h7
  have hHI := ho.hI
  have hb4 := ho.halves
  have hb5 := ho.crosses
  have hb0 := ho.len
  have i1 := isHole_ok (g := g) (l := l) ho hs (x := (h : Int)) (by omega)
  rw [bvT (by omega)] at i1
  have i2 := isIn_ok (g := g) (σ := σ) (l := l) (x := x) (a := 1) (b := s 0 - 1) (by omega) (by decide) (by omega)
  rw [bvT h1] at i2
  have i3 := isIn_ok (g := g) (σ := σ) (l := l) (x := z) (a := 2) (b := 15) (by omega) (by decide) (by decide)
  rw [bvT h2] at i3
  have p1 : h ≠ 0 → Fw g zX6_placeOf [.ref 92, iv ((h : Int) - 1)] (up σ 92 6 0) l (iv (wPl s ((h : Int) - 1))) ∧ 1 ≤ wPl s ((h : Int) - 1) ∧ wPl s ((h : Int) - 1) ≤ 600 := fun h0 => by
    have e := placeOf_ok (g := g) (l := l) hs0 (k := h - 1) (by omega)
    rw [show ((h - 1 : Nat) : Int) = (h : Int) - 1 from by omega] at e
    have r := ho.hol ((h : Int) - 1) (by omega) (by omega)
    exact ⟨e, r.1, r.2.1⟩
  have p2 : (h : Int) ≠ s 3 - 1 → Fw g zX6_placeOf [.ref 92, iv ((h : Int) + 1)] (up σ 92 6 0) l (iv (wPl s ((h : Int) + 1))) ∧ 1 ≤ wPl s ((h : Int) + 1) ∧ wPl s ((h : Int) + 1) ≤ 600 := fun h0 => by
    have r := ho.hol ((h : Int) + 1) (by omega) (by omega)
    exact ⟨placeOf_ok (g := g) (l := l) hs0 (k := h + 1) (by omega), r.1, r.2.1⟩
  refine Fn.of [some (.ref 92), some (iv (h : Int)), some (iv x), some (iv z), none, none, none] rfl (by decide) (Nat.le_of_ble_eq_true rfl) rfl ?_
  refine g_aload0 dX6_setHole_0 ?_
  refine g_aload0 dX6_setHole_1 ?_
  refine g_iload1 dX6_setHole_2 ?_
  refine f_cV1w (i1) rfl (by decide) rfl oY_X6_isHole oI_X6_isHole lk_X6_292 rfl dX6_setHole_3 rfl (Or.inl rfl) ?_
  refine g_iload2 dX6_setHole_6 ?_
  refine g_i2l ⟨by omega, by omega⟩ dX6_setHole_7 ?_
  refine g_lconst1 dX6_setHole_8 ?_
  refine g_aload0 dX6_setHole_9 ?_
  refine f_getr (r := 93) rfl (by decide) rfl rfl fl_X6_7 dX6_setHole_10 ?_
  first | rw [hs] | rw [hs0] | skip
  refine g_iconst dX6_setHole_13 ?_
  refine f_iald rfl (by decide) ⟨by omega, by show _ < ((67 : Nat) : Int); omega⟩ dX6_setHole_14 ?_
  first | rw [hs] | rw [hs0] | skip
  refine g_iconst dX6_setHole_15 ?_
  refine g_isub dX6_setHole_16 ?_
  refine g_i2l ⟨by omega, by omega⟩ dX6_setHole_17 ?_
  refine f_cS3w (i2) oY_X6_isIn oT_X6_isIn lk_X6_83 rfl dX6_setHole_18 rfl (Or.inl rfl) ?_
  refine g_if_eq ⟨by decide, by decide⟩ (tgt := 42) dX6_setHole_21 rfl (fun h21 => absurd h21 (by decide)) (fun h21 => ?_)
  refine g_iload3 dX6_setHole_24 ?_
  refine g_i2l ⟨by omega, by omega⟩ dX6_setHole_25 ?_
  refine g_ldc2 (v := Int64.ofInt (2)) kl_X6_295 dX6_setHole_26 ?_
  refine g_ldc2 (v := Int64.ofInt (15)) kl_X6_283 dX6_setHole_29 ?_
  refine f_cS3w (i3) oY_X6_isIn oT_X6_isIn lk_X6_83 rfl dX6_setHole_32 rfl (Or.inl rfl) ?_
  refine g_if_eq ⟨by decide, by decide⟩ (tgt := 42) dX6_setHole_35 rfl (fun h35 => absurd h35 (by decide)) (fun h35 => ?_)
  refine g_iconst dX6_setHole_38 ?_
  refine g_goto (tgt := 43) dX6_setHole_39 rfl ?_
  refine f_cV2x (passes_11) rfl (by decide) rfl oY_X6_passes oI_X6_passes lk_X6_285 rfl dX6_setHole_43 rfl (Or.inl rfl) ?_
  refine g_if_ne ⟨by decide, by decide⟩ (tgt := 51) dX6_setHole_46 rfl (fun h46 => ?_) (fun h46 => absurd h46 (by decide))
  refine g_iload1 dX6_setHole_51 ?_
  refine g_if_eq ⟨by omega, by omega⟩ (tgt := 66) dX6_setHole_52 rfl (fun h52 => ?_) (fun h52 => ?_)
  · refine g_iconst dX6_setHole_66 ?_
    refine g_goto (tgt := 71) dX6_setHole_67 rfl ?_
    refine g_istore4 dX6_setHole_71 rfl (by decide) ?_
    refine g_iload1 dX6_setHole_73 ?_
    refine g_aload0 dX6_setHole_74 ?_
    refine f_getr (r := 93) rfl (by decide) rfl rfl fl_X6_7 dX6_setHole_75 ?_
    first | rw [hs] | rw [hs0] | skip
    refine g_iconst dX6_setHole_78 ?_
    refine f_iald rfl (by decide) ⟨by omega, by show _ < ((67 : Nat) : Int); omega⟩ dX6_setHole_79 ?_
    first | rw [hs] | rw [hs0] | skip
    refine g_iconst dX6_setHole_80 ?_
    refine g_isub dX6_setHole_81 ?_
    refine g_icmp_eq ⟨by omega, by omega⟩ ⟨by omega, by omega⟩ (tgt := 96) dX6_setHole_82 rfl (fun h82 => ?_) (fun h82 => ?_)
    · refine g_iconst dX6_setHole_96 ?_
      refine g_goto (tgt := 101) dX6_setHole_97 rfl ?_
      refine g_istore5 dX6_setHole_101 rfl (by decide) ?_
      refine g_iload4 dX6_setHole_103 ?_
      refine g_if_eq ⟨by decide, by decide⟩ (tgt := 113) dX6_setHole_105 rfl (fun h105 => absurd h105 (by decide)) (fun h105 => ?_)
      refine g_iload5 dX6_setHole_108 ?_
      refine g_if_ne ⟨by decide, by decide⟩ (tgt := 116) dX6_setHole_110 rfl (fun h110 => ?_) (fun h110 => absurd h110 (by decide))
      refine g_aload0 dX6_setHole_116 ?_
      refine g_bipush dX6_setHole_117 (by decide) ?_
      refine g_iconst dX6_setHole_119 ?_
      refine g_iload1 dX6_setHole_120 ?_
      refine g_imul dX6_setHole_121 ?_
      refine g_iadd dX6_setHole_122 ?_
      refine g_iload2 dX6_setHole_123 ?_
      refine f_cV2q (becomes_m (B := B) hM0 hs hn h8 (by omega)) rfl (by decide) rfl oY_X6_becomes oI_X6_becomes lk_X6_367 rfl dX6_setHole_124 (by omega) (by omega) rfl (Or.inl rfl) (fun σ124 l124 h124 => ?_)
      have el1 := h124.1
      subst el1
      have hs1 := h124.2.1
      have hS1 := h124.2.2.1
      have he1 : σ124 92 6 = 0 := h124.2.2.2.trans he0
      refine g_istore6 dX6_setHole_127 rfl (by decide) ?_
      refine g_aload0 dX6_setHole_129 ?_
      refine f_getr (r := 93) rfl (by decide) rfl rfl fl_X6_7 dX6_setHole_130 ?_
      first | rw [hs] | rw [hs0] | skip
      refine g_bipush dX6_setHole_133 (by decide) ?_
      refine g_iconst dX6_setHole_135 ?_
      refine g_iload1 dX6_setHole_136 ?_
      refine g_imul dX6_setHole_137 ?_
      refine g_iadd dX6_setHole_138 ?_
      refine g_iconst dX6_setHole_139 ?_
      refine g_iadd dX6_setHole_140 ?_
      refine g_iload3 dX6_setHole_141 ?_
      refine f_iast rfl (by decide) ⟨by omega, by show _ < ((67 : Nat) : Int); omega⟩ dX6_setHole_142 ?_
      refine g_iload6 dX6_setHole_143 ?_
      refine g_iretI rfl dX6_setHole_145 ?_
      have hS2 := hS1.set (13 + 2 * (h : Int) + 1) z
      rw [show (13 : Int) + 2 * (h : Int) + 1 = 14 + 2 * (h : Int) from by omega] at hS2 ⊢
      exact Ms.ret rfl hS2 (by rw [up_n (by decide)]; exact he1)
    · have q2 := (p2 (by omega)).2
      refine g_iload2 dX6_setHole_85 ?_
      refine g_aload0 dX6_setHole_86 ?_
      refine g_iload1 dX6_setHole_87 ?_
      refine g_iconst dX6_setHole_88 ?_
      refine g_iadd dX6_setHole_89 ?_
      refine f_cV1w ((p2 (by omega)).1) rfl (by decide) rfl oY_X6_placeOf oI_X6_placeOf lk_X6_98 rfl dX6_setHole_90 rfl (Or.inl rfl) ?_
      refine g_icmp_ge ⟨by omega, by omega⟩ ⟨by omega, by omega⟩ (tgt := 100) dX6_setHole_93 rfl (fun h93 => ?_) (fun h93 => ?_)
      · refine g_iconst dX6_setHole_100 ?_
        refine g_istore5 dX6_setHole_101 rfl (by decide) ?_
        refine g_iload4 dX6_setHole_103 ?_
        refine g_if_eq ⟨by decide, by decide⟩ (tgt := 113) dX6_setHole_105 rfl (fun h105 => absurd h105 (by decide)) (fun h105 => ?_)
        refine g_iload5 dX6_setHole_108 ?_
        refine g_if_ne ⟨by decide, by decide⟩ (tgt := 116) dX6_setHole_110 rfl (fun h110 => absurd h110 (by decide)) (fun h110 => ?_)
        refine g_bipush dX6_setHole_113 (by decide) ?_
        refine g_iretI rfl dX6_setHole_115 ?_
        exact absurd hcd (fun z => by omega)
      · refine g_iconst dX6_setHole_96 ?_
        refine g_goto (tgt := 101) dX6_setHole_97 rfl ?_
        refine g_istore5 dX6_setHole_101 rfl (by decide) ?_
        refine g_iload4 dX6_setHole_103 ?_
        refine g_if_eq ⟨by decide, by decide⟩ (tgt := 113) dX6_setHole_105 rfl (fun h105 => absurd h105 (by decide)) (fun h105 => ?_)
        refine g_iload5 dX6_setHole_108 ?_
        refine g_if_ne ⟨by decide, by decide⟩ (tgt := 116) dX6_setHole_110 rfl (fun h110 => ?_) (fun h110 => absurd h110 (by decide))
        refine g_aload0 dX6_setHole_116 ?_
        refine g_bipush dX6_setHole_117 (by decide) ?_
        refine g_iconst dX6_setHole_119 ?_
        refine g_iload1 dX6_setHole_120 ?_
        refine g_imul dX6_setHole_121 ?_
        refine g_iadd dX6_setHole_122 ?_
        refine g_iload2 dX6_setHole_123 ?_
        refine f_cV2q (becomes_m (B := B) hM0 hs hn h8 (by omega)) rfl (by decide) rfl oY_X6_becomes oI_X6_becomes lk_X6_367 rfl dX6_setHole_124 (by omega) (by omega) rfl (Or.inl rfl) (fun σ124 l124 h124 => ?_)
        have el1 := h124.1
        subst el1
        have hs1 := h124.2.1
        have hS1 := h124.2.2.1
        have he1 : σ124 92 6 = 0 := h124.2.2.2.trans he0
        refine g_istore6 dX6_setHole_127 rfl (by decide) ?_
        refine g_aload0 dX6_setHole_129 ?_
        refine f_getr (r := 93) rfl (by decide) rfl rfl fl_X6_7 dX6_setHole_130 ?_
        first | rw [hs] | rw [hs0] | skip
        refine g_bipush dX6_setHole_133 (by decide) ?_
        refine g_iconst dX6_setHole_135 ?_
        refine g_iload1 dX6_setHole_136 ?_
        refine g_imul dX6_setHole_137 ?_
        refine g_iadd dX6_setHole_138 ?_
        refine g_iconst dX6_setHole_139 ?_
        refine g_iadd dX6_setHole_140 ?_
        refine g_iload3 dX6_setHole_141 ?_
        refine f_iast rfl (by decide) ⟨by omega, by show _ < ((67 : Nat) : Int); omega⟩ dX6_setHole_142 ?_
        refine g_iload6 dX6_setHole_143 ?_
        refine g_iretI rfl dX6_setHole_145 ?_
        have hS2 := hS1.set (13 + 2 * (h : Int) + 1) z
        rw [show (13 : Int) + 2 * (h : Int) + 1 = 14 + 2 * (h : Int) from by omega] at hS2 ⊢
        exact Ms.ret rfl hS2 (by rw [up_n (by decide)]; exact he1)
  · have q1 := (p1 (by omega)).2
    refine g_aload0 dX6_setHole_55 ?_
    refine g_iload1 dX6_setHole_56 ?_
    refine g_iconst dX6_setHole_57 ?_
    refine g_isub dX6_setHole_58 ?_
    refine f_cV1w ((p1 (by omega)).1) rfl (by decide) rfl oY_X6_placeOf oI_X6_placeOf lk_X6_98 rfl dX6_setHole_59 rfl (Or.inl rfl) ?_
    refine g_iload2 dX6_setHole_62 ?_
    refine g_icmp_ge ⟨by omega, by omega⟩ ⟨by omega, by omega⟩ (tgt := 70) dX6_setHole_63 rfl (fun h63 => ?_) (fun h63 => ?_)
    · refine g_iconst dX6_setHole_70 ?_
      refine g_istore4 dX6_setHole_71 rfl (by decide) ?_
      refine g_iload1 dX6_setHole_73 ?_
      refine g_aload0 dX6_setHole_74 ?_
      refine f_getr (r := 93) rfl (by decide) rfl rfl fl_X6_7 dX6_setHole_75 ?_
      first | rw [hs] | rw [hs0] | skip
      refine g_iconst dX6_setHole_78 ?_
      refine f_iald rfl (by decide) ⟨by omega, by show _ < ((67 : Nat) : Int); omega⟩ dX6_setHole_79 ?_
      first | rw [hs] | rw [hs0] | skip
      refine g_iconst dX6_setHole_80 ?_
      refine g_isub dX6_setHole_81 ?_
      refine g_icmp_eq ⟨by omega, by omega⟩ ⟨by omega, by omega⟩ (tgt := 96) dX6_setHole_82 rfl (fun h82 => ?_) (fun h82 => ?_)
      · refine g_iconst dX6_setHole_96 ?_
        refine g_goto (tgt := 101) dX6_setHole_97 rfl ?_
        refine g_istore5 dX6_setHole_101 rfl (by decide) ?_
        refine g_iload4 dX6_setHole_103 ?_
        refine g_if_eq ⟨by decide, by decide⟩ (tgt := 113) dX6_setHole_105 rfl (fun h105 => ?_) (fun h105 => absurd h105 (by decide))
        refine g_bipush dX6_setHole_113 (by decide) ?_
        refine g_iretI rfl dX6_setHole_115 ?_
        exact absurd hcd (fun z => by omega)
      · have q2 := (p2 (by omega)).2
        refine g_iload2 dX6_setHole_85 ?_
        refine g_aload0 dX6_setHole_86 ?_
        refine g_iload1 dX6_setHole_87 ?_
        refine g_iconst dX6_setHole_88 ?_
        refine g_iadd dX6_setHole_89 ?_
        refine f_cV1w ((p2 (by omega)).1) rfl (by decide) rfl oY_X6_placeOf oI_X6_placeOf lk_X6_98 rfl dX6_setHole_90 rfl (Or.inl rfl) ?_
        refine g_icmp_ge ⟨by omega, by omega⟩ ⟨by omega, by omega⟩ (tgt := 100) dX6_setHole_93 rfl (fun h93 => ?_) (fun h93 => ?_)
        · refine g_iconst dX6_setHole_100 ?_
          refine g_istore5 dX6_setHole_101 rfl (by decide) ?_
          refine g_iload4 dX6_setHole_103 ?_
          refine g_if_eq ⟨by decide, by decide⟩ (tgt := 113) dX6_setHole_105 rfl (fun h105 => ?_) (fun h105 => absurd h105 (by decide))
          refine g_bipush dX6_setHole_113 (by decide) ?_
          refine g_iretI rfl dX6_setHole_115 ?_
          exact absurd hcd (fun z => by omega)
        · refine g_iconst dX6_setHole_96 ?_
          refine g_goto (tgt := 101) dX6_setHole_97 rfl ?_
          refine g_istore5 dX6_setHole_101 rfl (by decide) ?_
          refine g_iload4 dX6_setHole_103 ?_
          refine g_if_eq ⟨by decide, by decide⟩ (tgt := 113) dX6_setHole_105 rfl (fun h105 => ?_) (fun h105 => absurd h105 (by decide))
          refine g_bipush dX6_setHole_113 (by decide) ?_
          refine g_iretI rfl dX6_setHole_115 ?_
          exact absurd hcd (fun z => by omega)
    · refine g_iconst dX6_setHole_66 ?_
      refine g_goto (tgt := 71) dX6_setHole_67 rfl ?_
      refine g_istore4 dX6_setHole_71 rfl (by decide) ?_
      refine g_iload1 dX6_setHole_73 ?_
      refine g_aload0 dX6_setHole_74 ?_
      refine f_getr (r := 93) rfl (by decide) rfl rfl fl_X6_7 dX6_setHole_75 ?_
      first | rw [hs] | rw [hs0] | skip
      refine g_iconst dX6_setHole_78 ?_
      refine f_iald rfl (by decide) ⟨by omega, by show _ < ((67 : Nat) : Int); omega⟩ dX6_setHole_79 ?_
      first | rw [hs] | rw [hs0] | skip
      refine g_iconst dX6_setHole_80 ?_
      refine g_isub dX6_setHole_81 ?_
      refine g_icmp_eq ⟨by omega, by omega⟩ ⟨by omega, by omega⟩ (tgt := 96) dX6_setHole_82 rfl (fun h82 => ?_) (fun h82 => ?_)
      · refine g_iconst dX6_setHole_96 ?_
        refine g_goto (tgt := 101) dX6_setHole_97 rfl ?_
        refine g_istore5 dX6_setHole_101 rfl (by decide) ?_
        refine g_iload4 dX6_setHole_103 ?_
        refine g_if_eq ⟨by decide, by decide⟩ (tgt := 113) dX6_setHole_105 rfl (fun h105 => absurd h105 (by decide)) (fun h105 => ?_)
        refine g_iload5 dX6_setHole_108 ?_
        refine g_if_ne ⟨by decide, by decide⟩ (tgt := 116) dX6_setHole_110 rfl (fun h110 => ?_) (fun h110 => absurd h110 (by decide))
        refine g_aload0 dX6_setHole_116 ?_
        refine g_bipush dX6_setHole_117 (by decide) ?_
        refine g_iconst dX6_setHole_119 ?_
        refine g_iload1 dX6_setHole_120 ?_
        refine g_imul dX6_setHole_121 ?_
        refine g_iadd dX6_setHole_122 ?_
        refine g_iload2 dX6_setHole_123 ?_
        refine f_cV2q (becomes_m (B := B) hM0 hs hn h8 (by omega)) rfl (by decide) rfl oY_X6_becomes oI_X6_becomes lk_X6_367 rfl dX6_setHole_124 (by omega) (by omega) rfl (Or.inl rfl) (fun σ124 l124 h124 => ?_)
        have el1 := h124.1
        subst el1
        have hs1 := h124.2.1
        have hS1 := h124.2.2.1
        have he1 : σ124 92 6 = 0 := h124.2.2.2.trans he0
        refine g_istore6 dX6_setHole_127 rfl (by decide) ?_
        refine g_aload0 dX6_setHole_129 ?_
        refine f_getr (r := 93) rfl (by decide) rfl rfl fl_X6_7 dX6_setHole_130 ?_
        first | rw [hs] | rw [hs0] | skip
        refine g_bipush dX6_setHole_133 (by decide) ?_
        refine g_iconst dX6_setHole_135 ?_
        refine g_iload1 dX6_setHole_136 ?_
        refine g_imul dX6_setHole_137 ?_
        refine g_iadd dX6_setHole_138 ?_
        refine g_iconst dX6_setHole_139 ?_
        refine g_iadd dX6_setHole_140 ?_
        refine g_iload3 dX6_setHole_141 ?_
        refine f_iast rfl (by decide) ⟨by omega, by show _ < ((67 : Nat) : Int); omega⟩ dX6_setHole_142 ?_
        refine g_iload6 dX6_setHole_143 ?_
        refine g_iretI rfl dX6_setHole_145 ?_
        have hS2 := hS1.set (13 + 2 * (h : Int) + 1) z
        rw [show (13 : Int) + 2 * (h : Int) + 1 = 14 + 2 * (h : Int) from by omega] at hS2 ⊢
        exact Ms.ret rfl hS2 (by rw [up_n (by decide)]; exact he1)
      · have q2 := (p2 (by omega)).2
        refine g_iload2 dX6_setHole_85 ?_
        refine g_aload0 dX6_setHole_86 ?_
        refine g_iload1 dX6_setHole_87 ?_
        refine g_iconst dX6_setHole_88 ?_
        refine g_iadd dX6_setHole_89 ?_
        refine f_cV1w ((p2 (by omega)).1) rfl (by decide) rfl oY_X6_placeOf oI_X6_placeOf lk_X6_98 rfl dX6_setHole_90 rfl (Or.inl rfl) ?_
        refine g_icmp_ge ⟨by omega, by omega⟩ ⟨by omega, by omega⟩ (tgt := 100) dX6_setHole_93 rfl (fun h93 => ?_) (fun h93 => ?_)
        · refine g_iconst dX6_setHole_100 ?_
          refine g_istore5 dX6_setHole_101 rfl (by decide) ?_
          refine g_iload4 dX6_setHole_103 ?_
          refine g_if_eq ⟨by decide, by decide⟩ (tgt := 113) dX6_setHole_105 rfl (fun h105 => absurd h105 (by decide)) (fun h105 => ?_)
          refine g_iload5 dX6_setHole_108 ?_
          refine g_if_ne ⟨by decide, by decide⟩ (tgt := 116) dX6_setHole_110 rfl (fun h110 => absurd h110 (by decide)) (fun h110 => ?_)
          refine g_bipush dX6_setHole_113 (by decide) ?_
          refine g_iretI rfl dX6_setHole_115 ?_
          exact absurd hcd (fun z => by omega)
        · refine g_iconst dX6_setHole_96 ?_
          refine g_goto (tgt := 101) dX6_setHole_97 rfl ?_
          refine g_istore5 dX6_setHole_101 rfl (by decide) ?_
          refine g_iload4 dX6_setHole_103 ?_
          refine g_if_eq ⟨by decide, by decide⟩ (tgt := 113) dX6_setHole_105 rfl (fun h105 => absurd h105 (by decide)) (fun h105 => ?_)
          refine g_iload5 dX6_setHole_108 ?_
          refine g_if_ne ⟨by decide, by decide⟩ (tgt := 116) dX6_setHole_110 rfl (fun h110 => ?_) (fun h110 => absurd h110 (by decide))
          refine g_aload0 dX6_setHole_116 ?_
          refine g_bipush dX6_setHole_117 (by decide) ?_
          refine g_iconst dX6_setHole_119 ?_
          refine g_iload1 dX6_setHole_120 ?_
          refine g_imul dX6_setHole_121 ?_
          refine g_iadd dX6_setHole_122 ?_
          refine g_iload2 dX6_setHole_123 ?_
          refine f_cV2q (becomes_m (B := B) hM0 hs hn h8 (by omega)) rfl (by decide) rfl oY_X6_becomes oI_X6_becomes lk_X6_367 rfl dX6_setHole_124 (by omega) (by omega) rfl (Or.inl rfl) (fun σ124 l124 h124 => ?_)
          have el1 := h124.1
          subst el1
          have hs1 := h124.2.1
          have hS1 := h124.2.2.1
          have he1 : σ124 92 6 = 0 := h124.2.2.2.trans he0
          refine g_istore6 dX6_setHole_127 rfl (by decide) ?_
          refine g_aload0 dX6_setHole_129 ?_
          refine f_getr (r := 93) rfl (by decide) rfl rfl fl_X6_7 dX6_setHole_130 ?_
          first | rw [hs] | rw [hs0] | skip
          refine g_bipush dX6_setHole_133 (by decide) ?_
          refine g_iconst dX6_setHole_135 ?_
          refine g_iload1 dX6_setHole_136 ?_
          refine g_imul dX6_setHole_137 ?_
          refine g_iadd dX6_setHole_138 ?_
          refine g_iconst dX6_setHole_139 ?_
          refine g_iadd dX6_setHole_140 ?_
          refine g_iload3 dX6_setHole_141 ?_
          refine f_iast rfl (by decide) ⟨by omega, by show _ < ((67 : Nat) : Int); omega⟩ dX6_setHole_142 ?_
          refine g_iload6 dX6_setHole_143 ?_
          refine g_iretI rfl dX6_setHole_145 ?_
          have hS2 := hS1.set (13 + 2 * (h : Int) + 1) z
          rw [show (13 : Int) + 2 * (h : Int) + 1 = 14 + 2 * (h : Int) from by omega] at hS2 ⊢
          exact Ms.ret rfl hS2 (by rw [up_n (by decide)]; exact he1)
theorem setHole_f {B : Int} {s : Int → Int} (ho : SOK B s) (hs : σ 93 = s) {h : Nat} (hh : h < wH s) {x z : Int} (h1 : 1 ≤ x ∧ x ≤ s 0 - 1) (h2 : 2 ≤ z ∧ z ≤ 15) (hcd : ¬ (((h : Int) = 0 ∨ wPl s ((h : Int) - 1) < x) ∧ ((h : Int) = s 3 - 1 ∨ x < wPl s ((h : Int) + 1)))) : Fo g zX6_setHole [.ref 92, iv (h : Int), iv x, iv z] σ l (iv (-3)) 0 := by
  have hs0 : up σ 92 6 0 93 = s := (up_n (by decide)).trans hs
  have hM0 : Md σ (up σ 92 6 0) := md_th (Md.refl σ)
  have he0 : up σ 92 6 0 92 6 = 0 := up_eq
  have hp3 := p3_le ho.h7
  have hp0 := p3_pos (wH s)
  have hn40 := ho.n40
  have hnI := ho.nI
  have hH7 := ho.h7
  have hHI := ho.hI
  have hb4 := ho.halves
  have hb5 := ho.crosses
  have hb0 := ho.len
  have i1 := isHole_ok (g := g) (l := l) ho hs (x := (h : Int)) (by omega)
  rw [bvT (by omega)] at i1
  have i2 := isIn_ok (g := g) (σ := σ) (l := l) (x := x) (a := 1) (b := s 0 - 1) (by omega) (by decide) (by omega)
  rw [bvT h1] at i2
  have i3 := isIn_ok (g := g) (σ := σ) (l := l) (x := z) (a := 2) (b := 15) (by omega) (by decide) (by decide)
  rw [bvT h2] at i3
  have p1 : h ≠ 0 → Fw g zX6_placeOf [.ref 92, iv ((h : Int) - 1)] (up σ 92 6 0) l (iv (wPl s ((h : Int) - 1))) ∧ 1 ≤ wPl s ((h : Int) - 1) ∧ wPl s ((h : Int) - 1) ≤ 600 := fun h0 => by
    have e := placeOf_ok (g := g) (l := l) hs0 (k := h - 1) (by omega)
    rw [show ((h - 1 : Nat) : Int) = (h : Int) - 1 from by omega] at e
    have r := ho.hol ((h : Int) - 1) (by omega) (by omega)
    exact ⟨e, r.1, r.2.1⟩
  have p2 : (h : Int) ≠ s 3 - 1 → Fw g zX6_placeOf [.ref 92, iv ((h : Int) + 1)] (up σ 92 6 0) l (iv (wPl s ((h : Int) + 1))) ∧ 1 ≤ wPl s ((h : Int) + 1) ∧ wPl s ((h : Int) + 1) ≤ 600 := fun h0 => by
    have r := ho.hol ((h : Int) + 1) (by omega) (by omega)
    exact ⟨placeOf_ok (g := g) (l := l) hs0 (k := h + 1) (by omega), r.1, r.2.1⟩
  refine Fn.of [some (.ref 92), some (iv (h : Int)), some (iv x), some (iv z), none, none, none] rfl (by decide) (Nat.le_of_ble_eq_true rfl) rfl ?_
  refine g_aload0 dX6_setHole_0 ?_
  refine g_aload0 dX6_setHole_1 ?_
  refine g_iload1 dX6_setHole_2 ?_
  refine f_cV1w (i1) rfl (by decide) rfl oY_X6_isHole oI_X6_isHole lk_X6_292 rfl dX6_setHole_3 rfl (Or.inl rfl) ?_
  refine g_iload2 dX6_setHole_6 ?_
  refine g_i2l ⟨by omega, by omega⟩ dX6_setHole_7 ?_
  refine g_lconst1 dX6_setHole_8 ?_
  refine g_aload0 dX6_setHole_9 ?_
  refine f_getr (r := 93) rfl (by decide) rfl rfl fl_X6_7 dX6_setHole_10 ?_
  first | rw [hs] | rw [hs0] | skip
  refine g_iconst dX6_setHole_13 ?_
  refine f_iald rfl (by decide) ⟨by omega, by show _ < ((67 : Nat) : Int); omega⟩ dX6_setHole_14 ?_
  first | rw [hs] | rw [hs0] | skip
  refine g_iconst dX6_setHole_15 ?_
  refine g_isub dX6_setHole_16 ?_
  refine g_i2l ⟨by omega, by omega⟩ dX6_setHole_17 ?_
  refine f_cS3w (i2) oY_X6_isIn oT_X6_isIn lk_X6_83 rfl dX6_setHole_18 rfl (Or.inl rfl) ?_
  refine g_if_eq ⟨by decide, by decide⟩ (tgt := 42) dX6_setHole_21 rfl (fun h21 => absurd h21 (by decide)) (fun h21 => ?_)
  refine g_iload3 dX6_setHole_24 ?_
  refine g_i2l ⟨by omega, by omega⟩ dX6_setHole_25 ?_
  refine g_ldc2 (v := Int64.ofInt (2)) kl_X6_295 dX6_setHole_26 ?_
  refine g_ldc2 (v := Int64.ofInt (15)) kl_X6_283 dX6_setHole_29 ?_
  refine f_cS3w (i3) oY_X6_isIn oT_X6_isIn lk_X6_83 rfl dX6_setHole_32 rfl (Or.inl rfl) ?_
  refine g_if_eq ⟨by decide, by decide⟩ (tgt := 42) dX6_setHole_35 rfl (fun h35 => absurd h35 (by decide)) (fun h35 => ?_)
  refine g_iconst dX6_setHole_38 ?_
  refine g_goto (tgt := 43) dX6_setHole_39 rfl ?_
  refine f_cV2x (passes_11) rfl (by decide) rfl oY_X6_passes oI_X6_passes lk_X6_285 rfl dX6_setHole_43 rfl (Or.inl rfl) ?_
  refine g_if_ne ⟨by decide, by decide⟩ (tgt := 51) dX6_setHole_46 rfl (fun h46 => ?_) (fun h46 => absurd h46 (by decide))
  refine g_iload1 dX6_setHole_51 ?_
  refine g_if_eq ⟨by omega, by omega⟩ (tgt := 66) dX6_setHole_52 rfl (fun h52 => ?_) (fun h52 => ?_)
  · refine g_iconst dX6_setHole_66 ?_
    refine g_goto (tgt := 71) dX6_setHole_67 rfl ?_
    refine g_istore4 dX6_setHole_71 rfl (by decide) ?_
    refine g_iload1 dX6_setHole_73 ?_
    refine g_aload0 dX6_setHole_74 ?_
    refine f_getr (r := 93) rfl (by decide) rfl rfl fl_X6_7 dX6_setHole_75 ?_
    first | rw [hs] | rw [hs0] | skip
    refine g_iconst dX6_setHole_78 ?_
    refine f_iald rfl (by decide) ⟨by omega, by show _ < ((67 : Nat) : Int); omega⟩ dX6_setHole_79 ?_
    first | rw [hs] | rw [hs0] | skip
    refine g_iconst dX6_setHole_80 ?_
    refine g_isub dX6_setHole_81 ?_
    refine g_icmp_eq ⟨by omega, by omega⟩ ⟨by omega, by omega⟩ (tgt := 96) dX6_setHole_82 rfl (fun h82 => ?_) (fun h82 => ?_)
    · refine g_iconst dX6_setHole_96 ?_
      refine g_goto (tgt := 101) dX6_setHole_97 rfl ?_
      refine g_istore5 dX6_setHole_101 rfl (by decide) ?_
      refine g_iload4 dX6_setHole_103 ?_
      refine g_if_eq ⟨by decide, by decide⟩ (tgt := 113) dX6_setHole_105 rfl (fun h105 => absurd h105 (by decide)) (fun h105 => ?_)
      refine g_iload5 dX6_setHole_108 ?_
      refine g_if_ne ⟨by decide, by decide⟩ (tgt := 116) dX6_setHole_110 rfl (fun h110 => ?_) (fun h110 => absurd h110 (by decide))
      exact absurd (show ((h : Int) = 0 ∨ wPl s ((h : Int) - 1) < x) ∧ ((h : Int) = s 3 - 1 ∨ x < wPl s ((h : Int) + 1)) from ⟨by omega, by omega⟩) hcd
    · have q2 := (p2 (by omega)).2
      refine g_iload2 dX6_setHole_85 ?_
      refine g_aload0 dX6_setHole_86 ?_
      refine g_iload1 dX6_setHole_87 ?_
      refine g_iconst dX6_setHole_88 ?_
      refine g_iadd dX6_setHole_89 ?_
      refine f_cV1w ((p2 (by omega)).1) rfl (by decide) rfl oY_X6_placeOf oI_X6_placeOf lk_X6_98 rfl dX6_setHole_90 rfl (Or.inl rfl) ?_
      refine g_icmp_ge ⟨by omega, by omega⟩ ⟨by omega, by omega⟩ (tgt := 100) dX6_setHole_93 rfl (fun h93 => ?_) (fun h93 => ?_)
      · refine g_iconst dX6_setHole_100 ?_
        refine g_istore5 dX6_setHole_101 rfl (by decide) ?_
        refine g_iload4 dX6_setHole_103 ?_
        refine g_if_eq ⟨by decide, by decide⟩ (tgt := 113) dX6_setHole_105 rfl (fun h105 => absurd h105 (by decide)) (fun h105 => ?_)
        refine g_iload5 dX6_setHole_108 ?_
        refine g_if_ne ⟨by decide, by decide⟩ (tgt := 116) dX6_setHole_110 rfl (fun h110 => absurd h110 (by decide)) (fun h110 => ?_)
        refine g_bipush dX6_setHole_113 (by decide) ?_
        refine g_iretI rfl dX6_setHole_115 ?_
        exact Fo.ret rfl hM0 he0
      · refine g_iconst dX6_setHole_96 ?_
        refine g_goto (tgt := 101) dX6_setHole_97 rfl ?_
        refine g_istore5 dX6_setHole_101 rfl (by decide) ?_
        refine g_iload4 dX6_setHole_103 ?_
        refine g_if_eq ⟨by decide, by decide⟩ (tgt := 113) dX6_setHole_105 rfl (fun h105 => absurd h105 (by decide)) (fun h105 => ?_)
        refine g_iload5 dX6_setHole_108 ?_
        refine g_if_ne ⟨by decide, by decide⟩ (tgt := 116) dX6_setHole_110 rfl (fun h110 => ?_) (fun h110 => absurd h110 (by decide))
        exact absurd (show ((h : Int) = 0 ∨ wPl s ((h : Int) - 1) < x) ∧ ((h : Int) = s 3 - 1 ∨ x < wPl s ((h : Int) + 1)) from ⟨by omega, by omega⟩) hcd
  · have q1 := (p1 (by omega)).2
    refine g_aload0 dX6_setHole_55 ?_
    refine g_iload1 dX6_setHole_56 ?_
    refine g_iconst dX6_setHole_57 ?_
    refine g_isub dX6_setHole_58 ?_
    refine f_cV1w ((p1 (by omega)).1) rfl (by decide) rfl oY_X6_placeOf oI_X6_placeOf lk_X6_98 rfl dX6_setHole_59 rfl (Or.inl rfl) ?_
    refine g_iload2 dX6_setHole_62 ?_
    refine g_icmp_ge ⟨by omega, by omega⟩ ⟨by omega, by omega⟩ (tgt := 70) dX6_setHole_63 rfl (fun h63 => ?_) (fun h63 => ?_)
    · refine g_iconst dX6_setHole_70 ?_
      refine g_istore4 dX6_setHole_71 rfl (by decide) ?_
      refine g_iload1 dX6_setHole_73 ?_
      refine g_aload0 dX6_setHole_74 ?_
      refine f_getr (r := 93) rfl (by decide) rfl rfl fl_X6_7 dX6_setHole_75 ?_
      first | rw [hs] | rw [hs0] | skip
      refine g_iconst dX6_setHole_78 ?_
      refine f_iald rfl (by decide) ⟨by omega, by show _ < ((67 : Nat) : Int); omega⟩ dX6_setHole_79 ?_
      first | rw [hs] | rw [hs0] | skip
      refine g_iconst dX6_setHole_80 ?_
      refine g_isub dX6_setHole_81 ?_
      refine g_icmp_eq ⟨by omega, by omega⟩ ⟨by omega, by omega⟩ (tgt := 96) dX6_setHole_82 rfl (fun h82 => ?_) (fun h82 => ?_)
      · refine g_iconst dX6_setHole_96 ?_
        refine g_goto (tgt := 101) dX6_setHole_97 rfl ?_
        refine g_istore5 dX6_setHole_101 rfl (by decide) ?_
        refine g_iload4 dX6_setHole_103 ?_
        refine g_if_eq ⟨by decide, by decide⟩ (tgt := 113) dX6_setHole_105 rfl (fun h105 => ?_) (fun h105 => absurd h105 (by decide))
        refine g_bipush dX6_setHole_113 (by decide) ?_
        refine g_iretI rfl dX6_setHole_115 ?_
        exact Fo.ret rfl hM0 he0
      · have q2 := (p2 (by omega)).2
        refine g_iload2 dX6_setHole_85 ?_
        refine g_aload0 dX6_setHole_86 ?_
        refine g_iload1 dX6_setHole_87 ?_
        refine g_iconst dX6_setHole_88 ?_
        refine g_iadd dX6_setHole_89 ?_
        refine f_cV1w ((p2 (by omega)).1) rfl (by decide) rfl oY_X6_placeOf oI_X6_placeOf lk_X6_98 rfl dX6_setHole_90 rfl (Or.inl rfl) ?_
        refine g_icmp_ge ⟨by omega, by omega⟩ ⟨by omega, by omega⟩ (tgt := 100) dX6_setHole_93 rfl (fun h93 => ?_) (fun h93 => ?_)
        · refine g_iconst dX6_setHole_100 ?_
          refine g_istore5 dX6_setHole_101 rfl (by decide) ?_
          refine g_iload4 dX6_setHole_103 ?_
          refine g_if_eq ⟨by decide, by decide⟩ (tgt := 113) dX6_setHole_105 rfl (fun h105 => ?_) (fun h105 => absurd h105 (by decide))
          refine g_bipush dX6_setHole_113 (by decide) ?_
          refine g_iretI rfl dX6_setHole_115 ?_
          exact Fo.ret rfl hM0 he0
        · refine g_iconst dX6_setHole_96 ?_
          refine g_goto (tgt := 101) dX6_setHole_97 rfl ?_
          refine g_istore5 dX6_setHole_101 rfl (by decide) ?_
          refine g_iload4 dX6_setHole_103 ?_
          refine g_if_eq ⟨by decide, by decide⟩ (tgt := 113) dX6_setHole_105 rfl (fun h105 => ?_) (fun h105 => absurd h105 (by decide))
          refine g_bipush dX6_setHole_113 (by decide) ?_
          refine g_iretI rfl dX6_setHole_115 ?_
          exact Fo.ret rfl hM0 he0
    · refine g_iconst dX6_setHole_66 ?_
      refine g_goto (tgt := 71) dX6_setHole_67 rfl ?_
      refine g_istore4 dX6_setHole_71 rfl (by decide) ?_
      refine g_iload1 dX6_setHole_73 ?_
      refine g_aload0 dX6_setHole_74 ?_
      refine f_getr (r := 93) rfl (by decide) rfl rfl fl_X6_7 dX6_setHole_75 ?_
      first | rw [hs] | rw [hs0] | skip
      refine g_iconst dX6_setHole_78 ?_
      refine f_iald rfl (by decide) ⟨by omega, by show _ < ((67 : Nat) : Int); omega⟩ dX6_setHole_79 ?_
      first | rw [hs] | rw [hs0] | skip
      refine g_iconst dX6_setHole_80 ?_
      refine g_isub dX6_setHole_81 ?_
      refine g_icmp_eq ⟨by omega, by omega⟩ ⟨by omega, by omega⟩ (tgt := 96) dX6_setHole_82 rfl (fun h82 => ?_) (fun h82 => ?_)
      · refine g_iconst dX6_setHole_96 ?_
        refine g_goto (tgt := 101) dX6_setHole_97 rfl ?_
        refine g_istore5 dX6_setHole_101 rfl (by decide) ?_
        refine g_iload4 dX6_setHole_103 ?_
        refine g_if_eq ⟨by decide, by decide⟩ (tgt := 113) dX6_setHole_105 rfl (fun h105 => absurd h105 (by decide)) (fun h105 => ?_)
        refine g_iload5 dX6_setHole_108 ?_
        refine g_if_ne ⟨by decide, by decide⟩ (tgt := 116) dX6_setHole_110 rfl (fun h110 => ?_) (fun h110 => absurd h110 (by decide))
        exact absurd (show ((h : Int) = 0 ∨ wPl s ((h : Int) - 1) < x) ∧ ((h : Int) = s 3 - 1 ∨ x < wPl s ((h : Int) + 1)) from ⟨by omega, by omega⟩) hcd
      · have q2 := (p2 (by omega)).2
        refine g_iload2 dX6_setHole_85 ?_
        refine g_aload0 dX6_setHole_86 ?_
        refine g_iload1 dX6_setHole_87 ?_
        refine g_iconst dX6_setHole_88 ?_
        refine g_iadd dX6_setHole_89 ?_
        refine f_cV1w ((p2 (by omega)).1) rfl (by decide) rfl oY_X6_placeOf oI_X6_placeOf lk_X6_98 rfl dX6_setHole_90 rfl (Or.inl rfl) ?_
        refine g_icmp_ge ⟨by omega, by omega⟩ ⟨by omega, by omega⟩ (tgt := 100) dX6_setHole_93 rfl (fun h93 => ?_) (fun h93 => ?_)
        · refine g_iconst dX6_setHole_100 ?_
          refine g_istore5 dX6_setHole_101 rfl (by decide) ?_
          refine g_iload4 dX6_setHole_103 ?_
          refine g_if_eq ⟨by decide, by decide⟩ (tgt := 113) dX6_setHole_105 rfl (fun h105 => absurd h105 (by decide)) (fun h105 => ?_)
          refine g_iload5 dX6_setHole_108 ?_
          refine g_if_ne ⟨by decide, by decide⟩ (tgt := 116) dX6_setHole_110 rfl (fun h110 => absurd h110 (by decide)) (fun h110 => ?_)
          refine g_bipush dX6_setHole_113 (by decide) ?_
          refine g_iretI rfl dX6_setHole_115 ?_
          exact Fo.ret rfl hM0 he0
        · refine g_iconst dX6_setHole_96 ?_
          refine g_goto (tgt := 101) dX6_setHole_97 rfl ?_
          refine g_istore5 dX6_setHole_101 rfl (by decide) ?_
          refine g_iload4 dX6_setHole_103 ?_
          refine g_if_eq ⟨by decide, by decide⟩ (tgt := 113) dX6_setHole_105 rfl (fun h105 => absurd h105 (by decide)) (fun h105 => ?_)
          refine g_iload5 dX6_setHole_108 ?_
          refine g_if_ne ⟨by decide, by decide⟩ (tgt := 116) dX6_setHole_110 rfl (fun h110 => ?_) (fun h110 => absurd h110 (by decide))
          exact absurd (show ((h : Int) = 0 ∨ wPl s ((h : Int) - 1) < x) ∧ ((h : Int) = s 3 - 1 ∨ x < wPl s ((h : Int) + 1)) from ⟨by omega, by omega⟩) hcd
theorem setHole_r1 {B : Int} {s : Int → Int} (ho : SOK B s) (hs : σ 93 = s) {x y z : Int} (hx : R32 x) (hy : R32 y) (hz : R32 z) (h : ¬ (0 ≤ x ∧ x < s 3)) : Fo g zX6_setHole [.ref 92, iv x, iv y, iv z] σ l (iv 0) 1 := by
  have hs0 : up σ 92 6 0 93 = s := (up_n (by decide)).trans hs
  have hM0 : Md σ (up σ 92 6 0) := md_th (Md.refl σ)
  have he0 : up σ 92 6 0 92 6 = 0 := up_eq
  have hp3 := p3_le ho.h7
  have hp0 := p3_pos (wH s)
  have hn40 := ho.n40
  have hnI := ho.nI
  have hH7 := ho.h7
  have hHI := ho.hI
  have hb4 := ho.halves
  have hb5 := ho.crosses
  have hb0 := ho.len
  have i1 := isHole_ok (g := g) (l := l) ho hs (x := x) hx
  rw [bvF h] at i1
  refine Fn.of [some (.ref 92), some (iv x), some (iv y), some (iv z), none, none, none] rfl (by decide) (Nat.le_of_ble_eq_true rfl) rfl ?_
  refine g_aload0 dX6_setHole_0 ?_
  refine g_aload0 dX6_setHole_1 ?_
  refine g_iload1 dX6_setHole_2 ?_
  refine f_cV1w (i1) rfl (by decide) rfl oY_X6_isHole oI_X6_isHole lk_X6_292 rfl dX6_setHole_3 rfl (Or.inl rfl) ?_
  refine g_iload2 dX6_setHole_6 ?_
  refine g_i2l ⟨by omega, by omega⟩ dX6_setHole_7 ?_
  refine g_lconst1 dX6_setHole_8 ?_
  refine g_aload0 dX6_setHole_9 ?_
  refine f_getr (r := 93) rfl (by decide) rfl rfl fl_X6_7 dX6_setHole_10 ?_
  try rw [hs]
  refine g_iconst dX6_setHole_13 ?_
  refine f_iald rfl (by decide) ⟨by omega, by show _ < ((67 : Nat) : Int); omega⟩ dX6_setHole_14 ?_
  try rw [hs]
  refine g_iconst dX6_setHole_15 ?_
  refine g_isub dX6_setHole_16 ?_
  refine g_i2l ⟨by omega, by omega⟩ dX6_setHole_17 ?_
  refine f_cS3w (isIn_ok (by omega) (by decide) (by omega)) oY_X6_isIn oT_X6_isIn lk_X6_83 rfl dX6_setHole_18 rfl (Or.inl rfl) ?_
  refine g_ifeqB (tgt := 42) dX6_setHole_21 rfl (fun h21 => ?_) (fun h21 => ?_)
  · refine g_iconst dX6_setHole_42 ?_
    refine f_cV2x (passes_00) rfl (by decide) rfl oY_X6_passes oI_X6_passes lk_X6_285 rfl dX6_setHole_43 rfl (Or.inl rfl) ?_
    refine g_if_ne ⟨by decide, by decide⟩ (tgt := 51) dX6_setHole_46 rfl (fun h46 => absurd h46 (by decide)) (fun h46 => ?_)
    refine g_iconst dX6_setHole_49 ?_
    refine g_iretI rfl dX6_setHole_50 ?_
    exact Fo.ret rfl (md_th (Md.refl σ)) up_eq
  · refine g_iload3 dX6_setHole_24 ?_
    refine g_i2l ⟨by omega, by omega⟩ dX6_setHole_25 ?_
    refine g_ldc2 (v := Int64.ofInt (2)) kl_X6_295 dX6_setHole_26 ?_
    refine g_ldc2 (v := Int64.ofInt (15)) kl_X6_283 dX6_setHole_29 ?_
    refine f_cS3w (isIn_ok (by omega) (by decide) (by decide)) oY_X6_isIn oT_X6_isIn lk_X6_83 rfl dX6_setHole_32 rfl (Or.inl rfl) ?_
    refine g_ifeqB (tgt := 42) dX6_setHole_35 rfl (fun h35 => ?_) (fun h35 => ?_)
    · refine g_iconst dX6_setHole_42 ?_
      refine f_cV2x (passes_00) rfl (by decide) rfl oY_X6_passes oI_X6_passes lk_X6_285 rfl dX6_setHole_43 rfl (Or.inl rfl) ?_
      refine g_if_ne ⟨by decide, by decide⟩ (tgt := 51) dX6_setHole_46 rfl (fun h46 => absurd h46 (by decide)) (fun h46 => ?_)
      refine g_iconst dX6_setHole_49 ?_
      refine g_iretI rfl dX6_setHole_50 ?_
      exact Fo.ret rfl (md_th (Md.refl σ)) up_eq
    · refine g_iconst dX6_setHole_38 ?_
      refine g_goto (tgt := 43) dX6_setHole_39 rfl ?_
      refine f_cV2x (passes_01) rfl (by decide) rfl oY_X6_passes oI_X6_passes lk_X6_285 rfl dX6_setHole_43 rfl (Or.inl rfl) ?_
      refine g_if_ne ⟨by decide, by decide⟩ (tgt := 51) dX6_setHole_46 rfl (fun h46 => absurd h46 (by decide)) (fun h46 => ?_)
      refine g_iconst dX6_setHole_49 ?_
      refine g_iretI rfl dX6_setHole_50 ?_
      exact Fo.ret rfl (md_th (Md.refl σ)) up_eq
theorem setHole_r2 {B : Int} {s : Int → Int} (ho : SOK B s) (hs : σ 93 = s) {x y z : Int} (hx : R32 x) (hy : R32 y) (hz : R32 z) (h0 : 0 ≤ x ∧ x < s 3) (h : ¬ ((1 ≤ y ∧ y ≤ s 0 - 1) ∧ 2 ≤ z ∧ z ≤ 15)) : Fo g zX6_setHole [.ref 92, iv x, iv y, iv z] σ l (iv 0) 2 := by
  have hs0 : up σ 92 6 0 93 = s := (up_n (by decide)).trans hs
  have hM0 : Md σ (up σ 92 6 0) := md_th (Md.refl σ)
  have he0 : up σ 92 6 0 92 6 = 0 := up_eq
  have hp3 := p3_le ho.h7
  have hp0 := p3_pos (wH s)
  have hn40 := ho.n40
  have hnI := ho.nI
  have hH7 := ho.h7
  have hHI := ho.hI
  have hb4 := ho.halves
  have hb5 := ho.crosses
  have hb0 := ho.len
  have i1 := isHole_ok (g := g) (l := l) ho hs (x := x) hx
  rw [bvT h0] at i1
  refine Fn.of [some (.ref 92), some (iv x), some (iv y), some (iv z), none, none, none] rfl (by decide) (Nat.le_of_ble_eq_true rfl) rfl ?_
  refine g_aload0 dX6_setHole_0 ?_
  refine g_aload0 dX6_setHole_1 ?_
  refine g_iload1 dX6_setHole_2 ?_
  refine f_cV1w (i1) rfl (by decide) rfl oY_X6_isHole oI_X6_isHole lk_X6_292 rfl dX6_setHole_3 rfl (Or.inl rfl) ?_
  refine g_iload2 dX6_setHole_6 ?_
  refine g_i2l ⟨by omega, by omega⟩ dX6_setHole_7 ?_
  refine g_lconst1 dX6_setHole_8 ?_
  refine g_aload0 dX6_setHole_9 ?_
  refine f_getr (r := 93) rfl (by decide) rfl rfl fl_X6_7 dX6_setHole_10 ?_
  try rw [hs]
  refine g_iconst dX6_setHole_13 ?_
  refine f_iald rfl (by decide) ⟨by omega, by show _ < ((67 : Nat) : Int); omega⟩ dX6_setHole_14 ?_
  try rw [hs]
  refine g_iconst dX6_setHole_15 ?_
  refine g_isub dX6_setHole_16 ?_
  refine g_i2l ⟨by omega, by omega⟩ dX6_setHole_17 ?_
  refine f_cS3w (isIn_ok (by omega) (by decide) (by omega)) oY_X6_isIn oT_X6_isIn lk_X6_83 rfl dX6_setHole_18 rfl (Or.inl rfl) ?_
  refine g_ifeqB (tgt := 42) dX6_setHole_21 rfl (fun h21 => ?_) (fun h21 => ?_)
  · refine g_iconst dX6_setHole_42 ?_
    refine f_cV2x (passes_10) rfl (by decide) rfl oY_X6_passes oI_X6_passes lk_X6_285 rfl dX6_setHole_43 rfl (Or.inl rfl) ?_
    refine g_if_ne ⟨by decide, by decide⟩ (tgt := 51) dX6_setHole_46 rfl (fun h46 => absurd h46 (by decide)) (fun h46 => ?_)
    refine g_iconst dX6_setHole_49 ?_
    refine g_iretI rfl dX6_setHole_50 ?_
    exact Fo.ret rfl (md_th (Md.refl σ)) up_eq
  · refine g_iload3 dX6_setHole_24 ?_
    refine g_i2l ⟨by omega, by omega⟩ dX6_setHole_25 ?_
    refine g_ldc2 (v := Int64.ofInt (2)) kl_X6_295 dX6_setHole_26 ?_
    refine g_ldc2 (v := Int64.ofInt (15)) kl_X6_283 dX6_setHole_29 ?_
    refine f_cS3w (isIn_ok (by omega) (by decide) (by decide)) oY_X6_isIn oT_X6_isIn lk_X6_83 rfl dX6_setHole_32 rfl (Or.inl rfl) ?_
    refine g_ifeqB (tgt := 42) dX6_setHole_35 rfl (fun h35 => ?_) (fun h35 => ?_)
    · refine g_iconst dX6_setHole_42 ?_
      refine f_cV2x (passes_10) rfl (by decide) rfl oY_X6_passes oI_X6_passes lk_X6_285 rfl dX6_setHole_43 rfl (Or.inl rfl) ?_
      refine g_if_ne ⟨by decide, by decide⟩ (tgt := 51) dX6_setHole_46 rfl (fun h46 => absurd h46 (by decide)) (fun h46 => ?_)
      refine g_iconst dX6_setHole_49 ?_
      refine g_iretI rfl dX6_setHole_50 ?_
      exact Fo.ret rfl (md_th (Md.refl σ)) up_eq
    · refine g_iconst dX6_setHole_38 ?_
      refine g_goto (tgt := 43) dX6_setHole_39 rfl ?_
      refine f_cV2x (passes_11) rfl (by decide) rfl oY_X6_passes oI_X6_passes lk_X6_285 rfl dX6_setHole_43 rfl (Or.inl rfl) ?_
      refine g_if_ne ⟨by decide, by decide⟩ (tgt := 51) dX6_setHole_46 rfl (fun h46 => ?_) (fun h46 => absurd h46 (by decide))
      exact absurd h (fun z => z ⟨by omega, by omega⟩)
end C79
