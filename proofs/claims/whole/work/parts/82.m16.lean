/-! The model: plays0, cover, blow, step -/
section C82
variable {g : gT} {σ : sT} {l : Nat → Nat}
theorem plays0_m {B : Int} {s : Int → Int} (ho : SOK B s) (hs : σ 93 = s) {p : Int} (hp : 0 ≤ p ∧ p < (2 * ((3 ^ wH s : Nat) : Int))) : FX g zX6_plays0 [.ref 92, iv p] σ l (iv p) (up (up σ 93 11 (s 11 + wCo s (s 10) p)) 93 10 p) := by
  refine Fn.of [some (.ref 92), some (iv p), none] rfl (by decide) (Nat.le_of_ble_eq_true rfl) rfl ?_
  refine g_aload0 dX6_plays0_0 ?_
  refine g_aload0 dX6_plays0_1 ?_
  refine f_getr (r := 93) rfl (by decide) rfl rfl fl_X6_7 dX6_plays0_2 ?_
  try rw [hs]
  refine g_bipush dX6_plays0_5 (by decide) ?_
  refine f_iald rfl (by decide) ⟨by omega, by show _ < ((67 : Nat) : Int); omega⟩ dX6_plays0_7 ?_
  try rw [hs]
  refine g_iload1 dX6_plays0_8 ?_
  refine f_cV2w (cost_m ho hs ho.play hp) rfl (by decide) rfl oY_X6_costOf oI_X6_costOf lk_X6_160 rfl dX6_plays0_9 rfl (Or.inl rfl) ?_
  refine g_istore2 dX6_plays0_12 rfl (by decide) ?_
  refine g_aload0 dX6_plays0_13 ?_
  refine f_getr (r := 93) rfl (by decide) rfl rfl fl_X6_7 dX6_plays0_14 ?_
  try rw [hs]
  refine g_bipush dX6_plays0_17 (by decide) ?_
  refine g_dup2 rfl rfl dX6_plays0_19 ?_
  refine f_iald rfl (by decide) ⟨by omega, by show _ < ((67 : Nat) : Int); omega⟩ dX6_plays0_20 ?_
  try rw [hs]
  refine g_iload2 dX6_plays0_21 ?_
  refine g_iadd dX6_plays0_22 ?_
  refine f_iast rfl (by decide) ⟨by omega, by show _ < ((67 : Nat) : Int); omega⟩ dX6_plays0_23 ?_
  refine g_aload0 dX6_plays0_24 ?_
  refine f_getr (r := 93) rfl (by decide) rfl rfl fl_X6_7 dX6_plays0_25 ?_
  try rw [hs]
  refine g_bipush dX6_plays0_28 (by decide) ?_
  refine g_iload1 dX6_plays0_30 ?_
  refine f_iast rfl (by decide) ⟨by omega, by show _ < ((67 : Nat) : Int); omega⟩ dX6_plays0_31 ?_
  refine g_iload1 dX6_plays0_32 ?_
  refine g_iretI rfl dX6_plays0_33 ?_
  exact FX.ret rfl rfl
theorem MS.tn {τ : sT} {t : Int → Int} {n : Nat} {P : Nat → Int → Int} (h : MS σ τ t n P) (p : Int) : MS σ (up (up τ 93 11 (t 11 + wCo t (t 10) p)) 93 10 p) (tnS t p) n P := (h.set 11 _).set 10 p
theorem cover_q {B : Int} {s : Int → Int} (ho : SOK B s) (hs : σ 93 = s) {n : Nat} (hn : σ 92 5 = (n : Int)) (h8 : n ≤ 8) {h : Nat} (hh : h < wH s) {w : Int} (hw : 0 ≤ w ∧ w ≤ 2) : Ms g zX6_cover [.ref 92, iv (h : Int), iv w] σ l (iv (cvP s h w)) (tnS s (cvP s h w)) (nP n) (pP n s (pr σ)) := by
  have hs0 : up σ 92 6 0 93 = s := (up_n (by decide)).trans hs
  have hM0 : Md σ (up σ 92 6 0) := md_th (Md.refl σ)
  have he0 : up σ 92 6 0 92 6 = 0 := up_eq
  have hp3 := p3_le ho.h7
  have hp0 := p3_pos (wH s)
  have hn40 := ho.n40
  have hnI := ho.nI
  have hH7 := ho.h7
  have hHI := ho.hI
  have hb4 := ho.halves
  have hb5 := ho.crosses
  have h1 := isHole_ok (g := g) (l := l) ho hs (x := (h : Int)) (by omega)
  rw [bvT (by omega)] at h1
  have h3 := isIn_ok (g := g) (σ := σ) (l := l) (x := w) (a := 0) (b := 2) (by omega) (by decide) (by decide)
  rw [bvT hw] at h3
  have hpl := ho.play
  have hcv := cvP_rng ho hh hw
  refine Fn.of [some (.ref 92), some (iv (h : Int)), some (iv w), none, none] rfl (by decide) (Nat.le_of_ble_eq_true rfl) rfl ?_
  refine g_aload0 dX6_cover_0 ?_
  refine g_aload0 dX6_cover_1 ?_
  refine g_iload1 dX6_cover_2 ?_
  refine f_cV1w (h1) rfl (by decide) rfl oY_X6_isHole oI_X6_isHole lk_X6_292 rfl dX6_cover_3 rfl (Or.inl rfl) ?_
  refine g_iload2 dX6_cover_6 ?_
  refine g_i2l ⟨by omega, by omega⟩ dX6_cover_7 ?_
  refine g_lconst0 dX6_cover_8 ?_
  refine g_ldc2 (v := Int64.ofInt (2)) kl_X6_295 dX6_cover_9 ?_
  refine f_cS3w (h3) oY_X6_isIn oT_X6_isIn lk_X6_83 rfl dX6_cover_12 rfl (Or.inl rfl) ?_
  refine f_cV2x (passes_11) rfl (by decide) rfl oY_X6_passes oI_X6_passes lk_X6_285 rfl dX6_cover_15 rfl (Or.inl rfl) ?_
  refine g_if_ne ⟨by decide, by decide⟩ (tgt := 23) dX6_cover_18 rfl (fun h18 => ?_) (fun h18 => absurd h18 (by decide))
  refine g_aload0 dX6_cover_23 ?_
  refine f_cV0m (keepsP (B := B) hM0 hs hn h8) rfl (by decide) rfl oY_X6_keeps oI_X6_keeps lk_X6_364 rfl dX6_cover_24 (by omega) (by omega) rfl (Or.inl rfl) (fun σ24 l24 h24 => ?_)
  have elk := h24.1
  subst elk
  have hsk := h24.2.1
  have hSk := h24.2.2.1
  have hek : σ24 92 6 = 0 := h24.2.2.2.trans he0
  refine g_iconst dX6_cover_27 ?_
  refine g_istore3 dX6_cover_28 rfl (by decide) ?_
  refine g_iconst dX6_cover_29 ?_
  refine g_istore4 dX6_cover_30 rfl (by decide) ?_
  have loop : ∀ q : Nat, q ≤ h → ∀ (i x : Int), i = (q : Int) → x = ((3 ^ q : Nat) : Int) → FW g zX6_cover 0 0 (fun o τ l' => o = .inl (some (iv (cvP s h w))) ∧ l' = l24 ∧ MS σ τ (tnS s (cvP s h w)) (nP n) (pP n s (pr σ)) ∧ τ 92 6 = 0) 32 [some (.ref 92), some (iv (h : Int)), some (iv w), some (iv x), some (iv i)] [] σ24 l24 := by
    refine loopUp _ (fun q hq2 ih i x hi hx => ?_)
    subst hi
    refine g_iload4 dX6_cover_32 ?_
    refine g_iload1 dX6_cover_34 ?_
    refine g_icmp_ge ⟨by omega, by omega⟩ ⟨by omega, by omega⟩ (tgt := 48) dX6_cover_35 rfl (fun h35 => ?_) (fun h35 => ?_)
    · have eq9 : q = h := by omega
      refine g_aload0 dX6_cover_48 ?_
      refine g_aload0 dX6_cover_49 ?_
      refine f_getr (r := 93) rfl (by decide) rfl rfl fl_X6_7 dX6_cover_50 ?_
      try rw [hsk]
      refine g_bipush dX6_cover_53 (by decide) ?_
      refine f_iald rfl (by decide) ⟨by omega, by show _ < ((67 : Nat) : Int); omega⟩ dX6_cover_55 ?_
      try rw [hsk]
      refine g_iload3 dX6_cover_56 ?_
      refine g_iload2 dX6_cover_57 ?_
      refine g_aload0 dX6_cover_58 ?_
      refine g_aload0 dX6_cover_59 ?_
      refine f_getr (r := 93) rfl (by decide) rfl rfl fl_X6_7 dX6_cover_60 ?_
      try rw [hsk]
      refine g_bipush dX6_cover_63 (by decide) ?_
      refine f_iald rfl (by decide) ⟨by omega, by show _ < ((67 : Nat) : Int); omega⟩ dX6_cover_65 ?_
      try rw [hsk]
      refine g_iload1 dX6_cover_66 ?_
      refine f_cV2w (cover_m (k := h) ⟨by omega, by omega⟩ (by omega)) rfl (by decide) rfl oY_X6_coverOf oI_X6_coverOf lk_X6_90 rfl dX6_cover_67 rfl (Or.inl rfl) ?_
      refine g_isub dX6_cover_70 ?_
      refine g_imul dX6_cover_71 ?_
      refine g_iadd dX6_cover_72 ?_
      rw [show s 10 + x * (w - dgt (s 10) h) = cvP s h w from by unfold cvP; rw [hx, eq9, Int.mul_comm]]
      refine f_cV1x (plays0_m ho hsk hcv) rfl (by decide) rfl oY_X6_plays0 oI_X6_plays0 lk_X6_379 rfl dX6_cover_73 rfl (Or.inl rfl) ?_
      refine g_iretI rfl dX6_cover_76 ?_
      exact Ms.ret rfl (hSk.tn _) (by rw [up_n (by decide), up_n (by decide)]; exact hek)
    · refine g_iload3 dX6_cover_38 ?_
      refine g_iconst dX6_cover_39 ?_
      refine g_imul dX6_cover_40 ?_
      refine g_istore3 dX6_cover_41 rfl (by decide) ?_
      refine g_iinc4 dX6_cover_42 rfl (by decide) ?_
      refine g_goto (tgt := 32) dX6_cover_45 rfl ?_
      exact ih (by omega) _ _ (by omega) (by rw [hx, Nat.pow_succ]; push_cast; rfl)
  exact loop 0 (Nat.zero_le _) _ _ rfl rfl
theorem cover_r1 {B : Int} {s : Int → Int} (ho : SOK B s) (hs : σ 93 = s) {x w : Int} (hx : R32 x) (hw : R32 w) (h : ¬ (0 ≤ x ∧ x < s 3)) : Fo g zX6_cover [.ref 92, iv x, iv w] σ l (iv 0) 1 := by
  have hs0 : up σ 92 6 0 93 = s := (up_n (by decide)).trans hs
  have hM0 : Md σ (up σ 92 6 0) := md_th (Md.refl σ)
  have he0 : up σ 92 6 0 92 6 = 0 := up_eq
  have hp3 := p3_le ho.h7
  have hp0 := p3_pos (wH s)
  have hn40 := ho.n40
  have hnI := ho.nI
  have hH7 := ho.h7
  have hHI := ho.hI
  have hb4 := ho.halves
  have hb5 := ho.crosses
  have h1 := isHole_ok (g := g) (l := l) ho hs (x := x) hx
  rw [bvF h] at h1
  refine Fn.of [some (.ref 92), some (iv x), some (iv w), none, none] rfl (by decide) (Nat.le_of_ble_eq_true rfl) rfl ?_
  refine g_aload0 dX6_cover_0 ?_
  refine g_aload0 dX6_cover_1 ?_
  refine g_iload1 dX6_cover_2 ?_
  refine f_cV1w (h1) rfl (by decide) rfl oY_X6_isHole oI_X6_isHole lk_X6_292 rfl dX6_cover_3 rfl (Or.inl rfl) ?_
  refine g_iload2 dX6_cover_6 ?_
  refine g_i2l ⟨by omega, by omega⟩ dX6_cover_7 ?_
  refine g_lconst0 dX6_cover_8 ?_
  refine g_ldc2 (v := Int64.ofInt (2)) kl_X6_295 dX6_cover_9 ?_
  refine f_cS3w (isIn_ok (by omega) (by decide) (by decide)) oY_X6_isIn oT_X6_isIn lk_X6_83 rfl dX6_cover_12 rfl (Or.inl rfl) ?_
  refine f_cV2x (passes_0) rfl (by decide) rfl oY_X6_passes oI_X6_passes lk_X6_285 rfl dX6_cover_15 rfl (Or.inl rfl) ?_
  refine g_if_ne ⟨by decide, by decide⟩ (tgt := 23) dX6_cover_18 rfl (fun h18 => absurd h18 (by decide)) (fun h18 => ?_)
  refine g_iconst dX6_cover_21 ?_
  refine g_iretI rfl dX6_cover_22 ?_
  exact Fo.ret rfl (md_th (Md.refl σ)) up_eq
theorem cover_r2 {B : Int} {s : Int → Int} (ho : SOK B s) (hs : σ 93 = s) {x w : Int} (hx : R32 x) (hw : R32 w) (h : 0 ≤ x ∧ x < s 3) (h2 : ¬ (0 ≤ w ∧ w ≤ 2)) : Fo g zX6_cover [.ref 92, iv x, iv w] σ l (iv 0) 2 := by
  have hs0 : up σ 92 6 0 93 = s := (up_n (by decide)).trans hs
  have hM0 : Md σ (up σ 92 6 0) := md_th (Md.refl σ)
  have he0 : up σ 92 6 0 92 6 = 0 := up_eq
  have hp3 := p3_le ho.h7
  have hp0 := p3_pos (wH s)
  have hn40 := ho.n40
  have hnI := ho.nI
  have hH7 := ho.h7
  have hHI := ho.hI
  have hb4 := ho.halves
  have hb5 := ho.crosses
  have h1 := isHole_ok (g := g) (l := l) ho hs (x := x) hx
  rw [bvT h] at h1
  have h3 := isIn_ok (g := g) (σ := σ) (l := l) (x := w) (a := 0) (b := 2) (by omega) (by decide) (by decide)
  rw [bvF h2] at h3
  refine Fn.of [some (.ref 92), some (iv x), some (iv w), none, none] rfl (by decide) (Nat.le_of_ble_eq_true rfl) rfl ?_
  refine g_aload0 dX6_cover_0 ?_
  refine g_aload0 dX6_cover_1 ?_
  refine g_iload1 dX6_cover_2 ?_
  refine f_cV1w (h1) rfl (by decide) rfl oY_X6_isHole oI_X6_isHole lk_X6_292 rfl dX6_cover_3 rfl (Or.inl rfl) ?_
  refine g_iload2 dX6_cover_6 ?_
  refine g_i2l ⟨by omega, by omega⟩ dX6_cover_7 ?_
  refine g_lconst0 dX6_cover_8 ?_
  refine g_ldc2 (v := Int64.ofInt (2)) kl_X6_295 dX6_cover_9 ?_
  refine f_cS3w (h3) oY_X6_isIn oT_X6_isIn lk_X6_83 rfl dX6_cover_12 rfl (Or.inl rfl) ?_
  refine f_cV2x (passes_10) rfl (by decide) rfl oY_X6_passes oI_X6_passes lk_X6_285 rfl dX6_cover_15 rfl (Or.inl rfl) ?_
  refine g_if_ne ⟨by decide, by decide⟩ (tgt := 23) dX6_cover_18 rfl (fun h18 => absurd h18 (by decide)) (fun h18 => ?_)
  refine g_iconst dX6_cover_21 ?_
  refine g_iretI rfl dX6_cover_22 ?_
  exact Fo.ret rfl (md_th (Md.refl σ)) up_eq
theorem blow0_q {B : Int} {s : Int → Int} (ho : SOK B s) (hs : σ 93 = s) {n : Nat} (hn : σ 92 5 = (n : Int)) (h8 : n ≤ 8)  : Ms g zX6_blow [.ref 92, iv 0] σ l (iv (blS s)) (tnS s (blS s)) (nP n) (pP n s (pr σ)) := by
  have hs0 : up σ 92 6 0 93 = s := (up_n (by decide)).trans hs
  have hM0 : Md σ (up σ 92 6 0) := md_th (Md.refl σ)
  have he0 : up σ 92 6 0 92 6 = 0 := up_eq
  have hp3 := p3_le ho.h7
  have hp0 := p3_pos (wH s)
  have hn40 := ho.n40
  have hnI := ho.nI
  have hH7 := ho.h7
  have hHI := ho.hI
  have hb4 := ho.halves
  have hb5 := ho.crosses
  have hpl := ho.play
  have hbr := blS_rng ho
  have hbl : s 10 % ((3 ^ wH s : Nat) : Int) = blS s := by
    unfold blS
    by_cases cc : s 10 < ((3 ^ wH s : Nat) : Int)
    · rw [if_pos cc, Int.emod_eq_of_lt hpl.1 cc]
    · rw [if_neg cc]
      have e : s 10 = (s 10 - ((3 ^ wH s : Nat) : Int)) + ((3 ^ wH s : Nat) : Int) := by omega
      rw [e, Int.add_emod_right, Int.emod_eq_of_lt (by omega) (by omega)]
      omega
  refine Fn.of [some (.ref 92), some (iv 0), none] rfl (by decide) (Nat.le_of_ble_eq_true rfl) rfl ?_
  refine g_aload0 dX6_blow_0 ?_
  refine g_iconst dX6_blow_1 ?_
  refine f_puti (J := 6) rfl (by decide) rfl rfl fl_X6_66 rfl (fun _ _ _ h => by cases h; rfl) dX6_blow_2 ?_
  refine g_aload0 dX6_blow_5 ?_
  refine f_cV0m (keepsP (B := B) hM0 hs hn h8) rfl (by decide) rfl oY_X6_keeps oI_X6_keeps lk_X6_364 rfl dX6_blow_6 (by omega) (by omega) rfl (Or.inl rfl) (fun σ6 l6 h6 => ?_)
  have elk := h6.1
  subst elk
  have hsk := h6.2.1
  have hSk := h6.2.2.1
  have hek : σ6 92 6 = 0 := h6.2.2.2.trans he0
  refine g_aload0 dX6_blow_9 ?_
  refine f_getr (r := 93) rfl (by decide) rfl rfl fl_X6_7 dX6_blow_10 ?_
  try rw [hsk]
  refine g_bipush dX6_blow_13 (by decide) ?_
  refine f_iald rfl (by decide) ⟨by omega, by show _ < ((67 : Nat) : Int); omega⟩ dX6_blow_15 ?_
  try rw [hsk]
  refine g_aload0 dX6_blow_16 ?_
  refine f_cV0w (power_ok ho hsk) rfl (by decide) rfl oY_X6_power oI_X6_power lk_X6_76 rfl dX6_blow_17 rfl (Or.inl rfl) ?_
  refine g_irem ⟨by omega, by omega⟩ ⟨by omega, by omega⟩ dX6_blow_20 ?_
  rw [hbl]
  refine g_istore2 dX6_blow_21 rfl (by decide) ?_
  refine g_aload0 dX6_blow_22 ?_
  refine g_iload1 dX6_blow_23 ?_
  refine g_if_eq ⟨by decide, by decide⟩ (tgt := 36) dX6_blow_24 rfl (fun h24 => ?_) (fun h24 => absurd h24 (by decide))
  refine g_iload2 dX6_blow_36 ?_
  refine f_cV1x (plays0_m ho hsk ⟨by omega, by omega⟩) rfl (by decide) rfl oY_X6_plays0 oI_X6_plays0 lk_X6_379 rfl dX6_blow_37 rfl (Or.inl rfl) ?_
  refine g_iretI rfl dX6_blow_40 ?_
  exact Ms.ret rfl (hSk.tn _) (by rw [up_n (by decide), up_n (by decide)]; exact hek)
theorem blow1_q {B : Int} {s : Int → Int} (ho : SOK B s) (hs : σ 93 = s) {n : Nat} (hn : σ 92 5 = (n : Int)) (h8 : n ≤ 8)  : Ms g zX6_blow [.ref 92, iv 1] σ l (iv (blS s + ((3 ^ wH s : Nat) : Int))) (tnS s (blS s + ((3 ^ wH s : Nat) : Int))) (nP n) (pP n s (pr σ)) := by
  have hs0 : up σ 92 6 0 93 = s := (up_n (by decide)).trans hs
  have hM0 : Md σ (up σ 92 6 0) := md_th (Md.refl σ)
  have he0 : up σ 92 6 0 92 6 = 0 := up_eq
  have hp3 := p3_le ho.h7
  have hp0 := p3_pos (wH s)
  have hn40 := ho.n40
  have hnI := ho.nI
  have hH7 := ho.h7
  have hHI := ho.hI
  have hb4 := ho.halves
  have hb5 := ho.crosses
  have hpl := ho.play
  have hbr := blS_rng ho
  have hbl : s 10 % ((3 ^ wH s : Nat) : Int) = blS s := by
    unfold blS
    by_cases cc : s 10 < ((3 ^ wH s : Nat) : Int)
    · rw [if_pos cc, Int.emod_eq_of_lt hpl.1 cc]
    · rw [if_neg cc]
      have e : s 10 = (s 10 - ((3 ^ wH s : Nat) : Int)) + ((3 ^ wH s : Nat) : Int) := by omega
      rw [e, Int.add_emod_right, Int.emod_eq_of_lt (by omega) (by omega)]
      omega
  refine Fn.of [some (.ref 92), some (iv 1), none] rfl (by decide) (Nat.le_of_ble_eq_true rfl) rfl ?_
  refine g_aload0 dX6_blow_0 ?_
  refine g_iconst dX6_blow_1 ?_
  refine f_puti (J := 6) rfl (by decide) rfl rfl fl_X6_66 rfl (fun _ _ _ h => by cases h; rfl) dX6_blow_2 ?_
  refine g_aload0 dX6_blow_5 ?_
  refine f_cV0m (keepsP (B := B) hM0 hs hn h8) rfl (by decide) rfl oY_X6_keeps oI_X6_keeps lk_X6_364 rfl dX6_blow_6 (by omega) (by omega) rfl (Or.inl rfl) (fun σ6 l6 h6 => ?_)
  have elk := h6.1
  subst elk
  have hsk := h6.2.1
  have hSk := h6.2.2.1
  have hek : σ6 92 6 = 0 := h6.2.2.2.trans he0
  refine g_aload0 dX6_blow_9 ?_
  refine f_getr (r := 93) rfl (by decide) rfl rfl fl_X6_7 dX6_blow_10 ?_
  try rw [hsk]
  refine g_bipush dX6_blow_13 (by decide) ?_
  refine f_iald rfl (by decide) ⟨by omega, by show _ < ((67 : Nat) : Int); omega⟩ dX6_blow_15 ?_
  try rw [hsk]
  refine g_aload0 dX6_blow_16 ?_
  refine f_cV0w (power_ok ho hsk) rfl (by decide) rfl oY_X6_power oI_X6_power lk_X6_76 rfl dX6_blow_17 rfl (Or.inl rfl) ?_
  refine g_irem ⟨by omega, by omega⟩ ⟨by omega, by omega⟩ dX6_blow_20 ?_
  rw [hbl]
  refine g_istore2 dX6_blow_21 rfl (by decide) ?_
  refine g_aload0 dX6_blow_22 ?_
  refine g_iload1 dX6_blow_23 ?_
  refine g_if_eq ⟨by decide, by decide⟩ (tgt := 36) dX6_blow_24 rfl (fun h24 => absurd h24 (by decide)) (fun h24 => ?_)
  refine g_iload2 dX6_blow_27 ?_
  refine g_aload0 dX6_blow_28 ?_
  refine f_cV0w (power_ok ho hsk) rfl (by decide) rfl oY_X6_power oI_X6_power lk_X6_76 rfl dX6_blow_29 rfl (Or.inl rfl) ?_
  refine g_iadd dX6_blow_32 ?_
  refine g_goto (tgt := 37) dX6_blow_33 rfl ?_
  refine f_cV1x (plays0_m ho hsk ⟨by omega, by omega⟩) rfl (by decide) rfl oY_X6_plays0 oI_X6_plays0 lk_X6_379 rfl dX6_blow_37 rfl (Or.inl rfl) ?_
  refine g_iretI rfl dX6_blow_40 ?_
  exact Ms.ret rfl (hSk.tn _) (by rw [up_n (by decide), up_n (by decide)]; exact hek)
theorem step_r0 {B : Int} {s : Int → Int} (ho : SOK B s) (hs : σ 93 = s) (h9 : s 9 = 0) : Fo g zX6_step [.ref 92] σ l (iv (-3)) 0 := by
  have hs0 : up σ 92 6 0 93 = s := (up_n (by decide)).trans hs
  have hM0 : Md σ (up σ 92 6 0) := md_th (Md.refl σ)
  have he0 : up σ 92 6 0 92 6 = 0 := up_eq
  have hp3 := p3_le ho.h7
  have hp0 := p3_pos (wH s)
  have hn40 := ho.n40
  have hnI := ho.nI
  have hH7 := ho.h7
  have hHI := ho.hI
  have hb4 := ho.halves
  have hb5 := ho.crosses
  refine Fn.of [some (.ref 92), none] rfl (by decide) (Nat.le_of_ble_eq_true rfl) rfl ?_
  refine g_aload0 dX6_step_0 ?_
  refine g_iconst dX6_step_1 ?_
  refine f_puti (J := 6) rfl (by decide) rfl rfl fl_X6_66 rfl (fun _ _ _ h => by cases h; rfl) dX6_step_2 ?_
  refine g_aload0 dX6_step_5 ?_
  refine f_getr (r := 93) rfl (by decide) rfl rfl fl_X6_7 dX6_step_6 ?_
  try rw [hs0]
  refine g_bipush dX6_step_9 (by decide) ?_
  refine f_iald rfl (by decide) ⟨by omega, by show _ < ((67 : Nat) : Int); omega⟩ dX6_step_11 ?_
  try rw [hs0]
  refine g_if_ne ⟨by omega, by omega⟩ (tgt := 18) dX6_step_12 rfl (fun h12 => absurd h12 (by omega)) (fun h12 => ?_)
  refine g_bipush dX6_step_15 (by decide) ?_
  refine g_iretI rfl dX6_step_17 ?_
  exact Fo.ret rfl hM0 he0
theorem step_r1 {B : Int} {s : Int → Int} (ho : SOK B s) (hs : σ 93 = s) (h9 : s 9 ≠ 0) (hk : ¬ wLk s (wTe s) 0 (stK s) = -1) : Fo g zX6_step [.ref 92] σ l (iv (-3)) 0 := by
  have hs0 : up σ 92 6 0 93 = s := (up_n (by decide)).trans hs
  have hM0 : Md σ (up σ 92 6 0) := md_th (Md.refl σ)
  have he0 : up σ 92 6 0 92 6 = 0 := up_eq
  have hp3 := p3_le ho.h7
  have hp0 := p3_pos (wH s)
  have hn40 := ho.n40
  have hnI := ho.nI
  have hH7 := ho.h7
  have hHI := ho.hI
  have hb4 := ho.halves
  have hb5 := ho.crosses
  have hpc := ho.place
  have hpl := ho.play
  have hfr : s 12 = ((stK s : Nat) : Int) := by unfold stK; omega
  refine Fn.of [some (.ref 92), none] rfl (by decide) (Nat.le_of_ble_eq_true rfl) rfl ?_
  refine g_aload0 dX6_step_0 ?_
  refine g_iconst dX6_step_1 ?_
  refine f_puti (J := 6) rfl (by decide) rfl rfl fl_X6_66 rfl (fun _ _ _ h => by cases h; rfl) dX6_step_2 ?_
  refine g_aload0 dX6_step_5 ?_
  refine f_getr (r := 93) rfl (by decide) rfl rfl fl_X6_7 dX6_step_6 ?_
  first | rw [hs0] | rw [hs1] | skip
  refine g_bipush dX6_step_9 (by decide) ?_
  refine f_iald rfl (by decide) ⟨by omega, by show _ < ((67 : Nat) : Int); omega⟩ dX6_step_11 ?_
  first | rw [hs0] | rw [hs1] | skip
  refine g_if_ne ⟨by omega, by omega⟩ (tgt := 18) dX6_step_12 rfl (fun h12 => ?_) (fun h12 => absurd h12 (by omega))
  refine g_aload0 dX6_step_18 ?_
  refine f_cV0m (laysP ho hs0) rfl (by decide) rfl oY_X6_laysPlays oI_X6_laysPlays lk_X6_177 rfl dX6_step_19 (by omega) (by omega) rfl (Or.inl rfl) (fun σ19 l19 h19 => ?_)
  have el1 := h19.1
  subst el1
  have hM1 := hM0.trans h19.2.1
  have he1 : σ19 92 6 = 0 := by rw [h19.2.2.2]; exact he0
  have hL1 := h19.2.2.1
  have hs1 := hM1.s hs
  refine g_aload0 dX6_step_22 ?_
  refine g_aload0 dX6_step_23 ?_
  refine f_getr (r := 93) rfl (by decide) rfl rfl fl_X6_7 dX6_step_24 ?_
  first | rw [hs0] | rw [hs1] | skip
  refine g_bipush dX6_step_27 (by decide) ?_
  refine f_iald rfl (by decide) ⟨by omega, by show _ < ((67 : Nat) : Int); omega⟩ dX6_step_29 ?_
  first | rw [hs0] | rw [hs1] | skip
  refine g_iconst dX6_step_30 ?_
  refine g_aload0 dX6_step_31 ?_
  refine f_getr (r := 93) rfl (by decide) rfl rfl fl_X6_7 dX6_step_32 ?_
  first | rw [hs0] | rw [hs1] | skip
  refine g_iconst dX6_step_35 ?_
  refine f_iald rfl (by decide) ⟨by omega, by show _ < ((67 : Nat) : Int); omega⟩ dX6_step_36 ?_
  first | rw [hs0] | rw [hs1] | skip
  refine g_aload0 dX6_step_37 ?_
  refine f_getr (r := 93) rfl (by decide) rfl rfl fl_X6_7 dX6_step_38 ?_
  first | rw [hs0] | rw [hs1] | skip
  refine g_iconst dX6_step_41 ?_
  refine f_iald rfl (by decide) ⟨by omega, by show _ < ((67 : Nat) : Int); omega⟩ dX6_step_42 ?_
  first | rw [hs0] | rw [hs1] | skip
  refine f_cV4q (reckons_n (fr := stK s) ho hs1 hL1 hfr (by omega) (by omega) (by omega) (by omega) (hg_0 ho) hk) rfl (by decide) rfl oY_X6_reckons oI_X6_reckons lk_X6_171 rfl dX6_step_43 (by omega) (by omega) rfl (Or.inl rfl) (fun σ43 l43 h43 => ?_)
  have el2 := h43.1
  subst el2
  have hf2 := h43.2
  have hM2 : Md σ σ43 := hM1.trans ⟨fun a a0 a1 => hf2 a (by omega) (by omega), fun j _ => by rw [hf2 92 (by decide) (by decide)]⟩
  have he2 : σ43 92 6 = 0 := by rw [hf2 92 (by decide) (by decide)]; exact he1
  have hs2 := hM2.s hs
  refine g_if_ne ⟨by decide, by decide⟩ (tgt := 52) dX6_step_46 rfl (fun h46 => absurd h46 (by decide)) (fun h46 => ?_)
  refine g_bipush dX6_step_49 (by decide) ?_
  refine g_iretI rfl dX6_step_51 ?_
  exact Fo.ret rfl hM2 he2
theorem step_q {B : Int} {s : Int → Int} (ho : SOK B s) (hs : σ 93 = s) {n : Nat} (hn : σ 92 5 = (n : Int)) (h8 : n ≤ 8) (h9 : s 9 ≠ 0) (hk : wLk s (wTe s) 0 (stK s) = -1) : Ms g zX6_step [.ref 92] σ l (iv (stP s)) (stS s) (nP n) (pP n s (pr σ)) := by
  have hs0 : up σ 92 6 0 93 = s := (up_n (by decide)).trans hs
  have hM0 : Md σ (up σ 92 6 0) := md_th (Md.refl σ)
  have he0 : up σ 92 6 0 92 6 = 0 := up_eq
  have hp3 := p3_le ho.h7
  have hp0 := p3_pos (wH s)
  have hn40 := ho.n40
  have hnI := ho.nI
  have hH7 := ho.h7
  have hHI := ho.hI
  have hb4 := ho.halves
  have hb5 := ho.crosses
  have hpc := ho.place
  have hpl := ho.play
  have hfr : s 12 = ((stK s : Nat) : Int) := by unfold stK; omega
  have hok := (lk_ok (by omega)).mp hk
  have hA2 : ∀ p : Int, 0 ≤ wAq s (wTe s) 0 (stK s) p ∧ wAq s (wTe s) 0 (stK s) p ≤ 2880 := fun p => ⟨(wAq_r ho (stK s) p).1, wAq_2880 ho (fun i hi hn => hok i (by omega) hn : lkP s (wTe s) 0 (stK s + 1)) p⟩
  have hoA := ho.u12 (stA_rng ho)
  have hrow : su (su (su s 12 (stA s)) 11 (s 11 + wCo s (s 10) (stP s))) 10 (stP s) = stS s := by
    unfold stS tnS
    funext j
    unfold su
    by_cases e10 : j = 10
    · simp only [if_pos e10, if_neg (show ¬ j = 12 by omega)]
    · by_cases e11 : j = 11
      · simp only [if_neg e10, if_pos e11, if_neg (show ¬ j = 12 by omega)]
      · simp only [if_neg e10, if_neg e11]
  refine Fn.of [some (.ref 92), none] rfl (by decide) (Nat.le_of_ble_eq_true rfl) rfl ?_
  by_cases ht : wTu s (stK s) = -1
  · refine g_aload0 dX6_step_0 ?_
    refine g_iconst dX6_step_1 ?_
    refine f_puti (J := 6) rfl (by decide) rfl rfl fl_X6_66 rfl (fun _ _ _ h => by cases h; rfl) dX6_step_2 ?_
    refine g_aload0 dX6_step_5 ?_
    refine f_getr (r := 93) rfl (by decide) rfl rfl fl_X6_7 dX6_step_6 ?_
    first | rw [hs0] | rw [hs1] | rw [hs2] | rw [hsk] | skip
    refine g_bipush dX6_step_9 (by decide) ?_
    refine f_iald rfl (by decide) ⟨by omega, by show _ < ((67 : Nat) : Int); omega⟩ dX6_step_11 ?_
    first | rw [hs0] | rw [hs1] | rw [hs2] | rw [hsk] | skip
    refine g_if_ne ⟨by omega, by omega⟩ (tgt := 18) dX6_step_12 rfl (fun h12 => ?_) (fun h12 => absurd h12 (by omega))
    refine g_aload0 dX6_step_18 ?_
    refine f_cV0m (laysP ho hs0) rfl (by decide) rfl oY_X6_laysPlays oI_X6_laysPlays lk_X6_177 rfl dX6_step_19 (by omega) (by omega) rfl (Or.inl rfl) (fun σ19 l19 h19 => ?_)
    have el1 := h19.1
    subst el1
    have hM1 := hM0.trans h19.2.1
    have he1 : σ19 92 6 = 0 := by rw [h19.2.2.2]; exact he0
    have hL1 := h19.2.2.1
    have hs1 := hM1.s hs
    refine g_aload0 dX6_step_22 ?_
    refine g_aload0 dX6_step_23 ?_
    refine f_getr (r := 93) rfl (by decide) rfl rfl fl_X6_7 dX6_step_24 ?_
    first | rw [hs0] | rw [hs1] | rw [hs2] | rw [hsk] | skip
    refine g_bipush dX6_step_27 (by decide) ?_
    refine f_iald rfl (by decide) ⟨by omega, by show _ < ((67 : Nat) : Int); omega⟩ dX6_step_29 ?_
    first | rw [hs0] | rw [hs1] | rw [hs2] | rw [hsk] | skip
    rw [hfr]
    refine g_iconst dX6_step_30 ?_
    refine g_aload0 dX6_step_31 ?_
    refine f_getr (r := 93) rfl (by decide) rfl rfl fl_X6_7 dX6_step_32 ?_
    first | rw [hs0] | rw [hs1] | rw [hs2] | rw [hsk] | skip
    refine g_iconst dX6_step_35 ?_
    refine f_iald rfl (by decide) ⟨by omega, by show _ < ((67 : Nat) : Int); omega⟩ dX6_step_36 ?_
    first | rw [hs0] | rw [hs1] | rw [hs2] | rw [hsk] | skip
    refine g_aload0 dX6_step_37 ?_
    refine f_getr (r := 93) rfl (by decide) rfl rfl fl_X6_7 dX6_step_38 ?_
    first | rw [hs0] | rw [hs1] | rw [hs2] | rw [hsk] | skip
    refine g_iconst dX6_step_41 ?_
    refine f_iald rfl (by decide) ⟨by omega, by show _ < ((67 : Nat) : Int); omega⟩ dX6_step_42 ?_
    first | rw [hs0] | rw [hs1] | rw [hs2] | rw [hsk] | skip
    refine f_cV4q (reckons_y (fr := stK s) ho hs1 hL1 rfl (by omega) (by omega) (by omega) (by omega) (hg_0 ho) hk) rfl (by decide) rfl oY_X6_reckons oI_X6_reckons lk_X6_171 rfl dX6_step_43 (by omega) (by omega) rfl (Or.inl rfl) (fun σ43 l43 h43 => ?_)
    have el2 := h43.1
    subst el2
    have hf2 := h43.2.1
    have hM2 : Md σ σ43 := hM1.trans ⟨fun a a0 a1 => hf2 a (by omega) (by omega), fun j _ => by rw [hf2 92 (by decide) (by decide)]⟩
    have he2 : σ43 92 6 = 0 := by rw [hf2 92 (by decide) (by decide)]; exact he1
    have hs2 := hM2.s hs
    have hrk := h43.2.2
    refine g_if_ne ⟨by decide, by decide⟩ (tgt := 52) dX6_step_46 rfl (fun h46 => ?_) (fun h46 => absurd h46 (by decide))
    refine g_aload0 dX6_step_52 ?_
    refine g_aload0 dX6_step_53 ?_
    refine f_getr (r := 93) rfl (by decide) rfl rfl fl_X6_7 dX6_step_54 ?_
    first | rw [hs0] | rw [hs1] | rw [hs2] | rw [hsk] | skip
    refine g_bipush dX6_step_57 (by decide) ?_
    refine f_iald rfl (by decide) ⟨by omega, by show _ < ((67 : Nat) : Int); omega⟩ dX6_step_59 ?_
    first | rw [hs0] | rw [hs1] | rw [hs2] | rw [hsk] | skip
    rw [hfr]
    refine f_cV1w (isNoted_m ho hs2 (k := stK s) (by omega)) rfl (by decide) rfl oY_X6_isNoted oI_X6_isNoted lk_X6_152 rfl dX6_step_60 rfl (Or.inl rfl) ?_
    refine g_ifeqB (tgt := 87) dX6_step_63 rfl (fun h63 => ?_) (fun h63 => absurd h63 (fun z => absurd ht z.2))
    have hstp : stP s = s 10 := by unfold stP; rw [if_pos ht]
    have hsp : 0 ≤ stP s ∧ stP s < 2 * ((3 ^ wH s : Nat) : Int) := by rw [hstp]; exact hpl
    refine g_aload0 dX6_step_87 ?_
    refine f_getr (r := 93) rfl (by decide) rfl rfl fl_X6_7 dX6_step_88 ?_
    first | rw [hs0] | rw [hs1] | rw [hs2] | rw [hsk] | skip
    refine g_bipush dX6_step_91 (by decide) ?_
    refine f_iald rfl (by decide) ⟨by omega, by show _ < ((67 : Nat) : Int); omega⟩ dX6_step_93 ?_
    first | rw [hs0] | rw [hs1] | rw [hs2] | rw [hsk] | skip
    rw [← hstp]
    refine g_istore1 dX6_step_94 rfl (by decide) ?_
    refine g_aload0 dX6_step_95 ?_
    refine f_cV0m (keepsP (B := B) hM2 hs hn h8) rfl (by decide) rfl oY_X6_keeps oI_X6_keeps lk_X6_364 rfl dX6_step_96 (by omega) (by omega) rfl (Or.inl rfl) (fun σ96 l96 h96 => ?_)
    have elk := h96.1
    subst elk
    have hsk := h96.2.1
    have hSk := h96.2.2.1
    have hek : σ96 92 6 = 0 := h96.2.2.2.trans he2
    refine g_aload0 dX6_step_99 ?_
    refine f_getr (r := 93) rfl (by decide) rfl rfl fl_X6_7 dX6_step_100 ?_
    first | rw [hs0] | rw [hs1] | rw [hs2] | rw [hsk] | skip
    refine g_bipush dX6_step_103 (by decide) ?_
    refine g_aload0 dX6_step_105 ?_
    refine f_getr (r := 93) rfl (by decide) rfl rfl fl_X6_7 dX6_step_106 ?_
    first | rw [hs0] | rw [hs1] | rw [hs2] | rw [hsk] | skip
    refine g_bipush dX6_step_109 (by decide) ?_
    refine f_iald rfl (by decide) ⟨by omega, by show _ < ((67 : Nat) : Int); omega⟩ dX6_step_111 ?_
    first | rw [hs0] | rw [hs1] | rw [hs2] | rw [hsk] | skip
    refine g_iconst dX6_step_112 ?_
    refine g_iadd dX6_step_113 ?_
    refine g_aload0 dX6_step_114 ?_
    refine f_getr (r := 93) rfl (by decide) rfl rfl fl_X6_7 dX6_step_115 ?_
    first | rw [hs0] | rw [hs1] | rw [hs2] | rw [hsk] | skip
    refine g_bipush dX6_step_118 (by decide) ?_
    refine f_iald rfl (by decide) ⟨by omega, by show _ < ((67 : Nat) : Int); omega⟩ dX6_step_120 ?_
    first | rw [hs0] | rw [hs1] | rw [hs2] | rw [hsk] | skip
    refine g_irem ⟨by omega, by omega⟩ ⟨by omega, by omega⟩ dX6_step_121 ?_
    rw [show (s 12 + 1) % s 9 = stA s from by unfold stA; split; (exact Int.emod_eq_of_lt (by omega) (by omega)); (rw [show s 12 + 1 = s 9 from by omega]; exact Int.emod_self)]
    refine f_iast rfl (by decide) ⟨by omega, by show _ < ((67 : Nat) : Int); omega⟩ dX6_step_122 ?_
    have hs5 : up σ96 93 12 (stA s) 93 = su s 12 (stA s) := by
      funext j
      unfold su
      by_cases e : j = 12
      · rw [e, up_eq, if_pos rfl]
      · rw [up_ne (fun z => e z.2), if_neg e, hsk]
    refine g_aload0 dX6_step_123 ?_
    refine g_iload1 dX6_step_124 ?_
    refine f_cV1x (plays0_m hoA hs5 hsp) rfl (by decide) rfl oY_X6_plays0 oI_X6_plays0 lk_X6_379 rfl dX6_step_125 rfl (Or.inl rfl) ?_
    refine g_iretI rfl dX6_step_128 ?_
    have hS5 := (hSk.set 12 (stA s)).tn (stP s)
    have hS6 := hS5.rw (u := stS s) (by
      rw [← hrow]
      exact Rw.refl _)
    exact Ms.ret rfl hS6 (by rw [up_n (by decide), up_n (by decide), up_n (by decide)]; exact hek)
  · refine g_aload0 dX6_step_0 ?_
    refine g_iconst dX6_step_1 ?_
    refine f_puti (J := 6) rfl (by decide) rfl rfl fl_X6_66 rfl (fun _ _ _ h => by cases h; rfl) dX6_step_2 ?_
    refine g_aload0 dX6_step_5 ?_
    refine f_getr (r := 93) rfl (by decide) rfl rfl fl_X6_7 dX6_step_6 ?_
    first | rw [hs0] | rw [hs1] | rw [hs2] | rw [hsk] | skip
    refine g_bipush dX6_step_9 (by decide) ?_
    refine f_iald rfl (by decide) ⟨by omega, by show _ < ((67 : Nat) : Int); omega⟩ dX6_step_11 ?_
    first | rw [hs0] | rw [hs1] | rw [hs2] | rw [hsk] | skip
    refine g_if_ne ⟨by omega, by omega⟩ (tgt := 18) dX6_step_12 rfl (fun h12 => ?_) (fun h12 => absurd h12 (by omega))
    refine g_aload0 dX6_step_18 ?_
    refine f_cV0m (laysP ho hs0) rfl (by decide) rfl oY_X6_laysPlays oI_X6_laysPlays lk_X6_177 rfl dX6_step_19 (by omega) (by omega) rfl (Or.inl rfl) (fun σ19 l19 h19 => ?_)
    have el1 := h19.1
    subst el1
    have hM1 := hM0.trans h19.2.1
    have he1 : σ19 92 6 = 0 := by rw [h19.2.2.2]; exact he0
    have hL1 := h19.2.2.1
    have hs1 := hM1.s hs
    refine g_aload0 dX6_step_22 ?_
    refine g_aload0 dX6_step_23 ?_
    refine f_getr (r := 93) rfl (by decide) rfl rfl fl_X6_7 dX6_step_24 ?_
    first | rw [hs0] | rw [hs1] | rw [hs2] | rw [hsk] | skip
    refine g_bipush dX6_step_27 (by decide) ?_
    refine f_iald rfl (by decide) ⟨by omega, by show _ < ((67 : Nat) : Int); omega⟩ dX6_step_29 ?_
    first | rw [hs0] | rw [hs1] | rw [hs2] | rw [hsk] | skip
    rw [hfr]
    refine g_iconst dX6_step_30 ?_
    refine g_aload0 dX6_step_31 ?_
    refine f_getr (r := 93) rfl (by decide) rfl rfl fl_X6_7 dX6_step_32 ?_
    first | rw [hs0] | rw [hs1] | rw [hs2] | rw [hsk] | skip
    refine g_iconst dX6_step_35 ?_
    refine f_iald rfl (by decide) ⟨by omega, by show _ < ((67 : Nat) : Int); omega⟩ dX6_step_36 ?_
    first | rw [hs0] | rw [hs1] | rw [hs2] | rw [hsk] | skip
    refine g_aload0 dX6_step_37 ?_
    refine f_getr (r := 93) rfl (by decide) rfl rfl fl_X6_7 dX6_step_38 ?_
    first | rw [hs0] | rw [hs1] | rw [hs2] | rw [hsk] | skip
    refine g_iconst dX6_step_41 ?_
    refine f_iald rfl (by decide) ⟨by omega, by show _ < ((67 : Nat) : Int); omega⟩ dX6_step_42 ?_
    first | rw [hs0] | rw [hs1] | rw [hs2] | rw [hsk] | skip
    refine f_cV4q (reckons_y (fr := stK s) ho hs1 hL1 rfl (by omega) (by omega) (by omega) (by omega) (hg_0 ho) hk) rfl (by decide) rfl oY_X6_reckons oI_X6_reckons lk_X6_171 rfl dX6_step_43 (by omega) (by omega) rfl (Or.inl rfl) (fun σ43 l43 h43 => ?_)
    have el2 := h43.1
    subst el2
    have hf2 := h43.2.1
    have hM2 : Md σ σ43 := hM1.trans ⟨fun a a0 a1 => hf2 a (by omega) (by omega), fun j _ => by rw [hf2 92 (by decide) (by decide)]⟩
    have he2 : σ43 92 6 = 0 := by rw [hf2 92 (by decide) (by decide)]; exact he1
    have hs2 := hM2.s hs
    have hrk := h43.2.2
    refine g_if_ne ⟨by decide, by decide⟩ (tgt := 52) dX6_step_46 rfl (fun h46 => ?_) (fun h46 => absurd h46 (by decide))
    refine g_aload0 dX6_step_52 ?_
    refine g_aload0 dX6_step_53 ?_
    refine f_getr (r := 93) rfl (by decide) rfl rfl fl_X6_7 dX6_step_54 ?_
    first | rw [hs0] | rw [hs1] | rw [hs2] | rw [hsk] | skip
    refine g_bipush dX6_step_57 (by decide) ?_
    refine f_iald rfl (by decide) ⟨by omega, by show _ < ((67 : Nat) : Int); omega⟩ dX6_step_59 ?_
    first | rw [hs0] | rw [hs1] | rw [hs2] | rw [hsk] | skip
    rw [hfr]
    refine f_cV1w (isNoted_m ho hs2 (k := stK s) (by omega)) rfl (by decide) rfl oY_X6_isNoted oI_X6_isNoted lk_X6_152 rfl dX6_step_60 rfl (Or.inl rfl) ?_
    refine g_ifeqB (tgt := 87) dX6_step_63 rfl (fun h63 => absurd h63 (fun z => z ⟨by omega, ht⟩)) (fun h63 => ?_)
    have hin := (hok (stK s) (Nat.le_refl _) (by omega)).resolve_left ht
    have htj := ho.tune (stK s) (by omega) (by omega)
    have hEP : EP (wTe s) (2 * 3 ^ wH s) (wTu s (stK s) + 0) = EL (wTe s) (wTu s (stK s) + 0) (2 * 3 ^ wH s) := by unfold EP; rw [if_pos ⟨by omega, by omega⟩]
    have hstp : stP s = pkA (fun q => wAq s (wTe s) 0 (stK s) q + (if s 10 = -1 then 0 else wCo s (s 10) q)) (EL (wTe s) (wTu s (stK s) + 0) (2 * 3 ^ wH s)) := by
      unfold stP
      rw [if_neg ht, ← hEP]
      show pkA (fun q => wAq s (wTe s) 0 (stK s) q + wCo s (s 10) q) _ = _
      congr 1
      funext q
      rw [if_neg (show ¬ s 10 = -1 by omega)]
    have hfo : Fw g zX6_firstOf [.ref 92, iv (stK s : Int), iv (s 10)] σ43 l43 (iv (stP s)) := by
      have h := firstOf_m (g := g) (l := l43) ho hs2 (k := stK s) (by omega) (pv := s 10) (Or.inr hpl) (A := wAq s (wTe s) 0 (stK s)) (TE := wTe s) (t := wTu s (stK s) + 0) hA2 (fun p a b2 => hrk (stK s) (Nat.le_refl _) (by omega) ht p a b2)
      rw [← hstp] at h
      exact h
    have hsp : 0 ≤ stP s ∧ stP s < 2 * ((3 ^ wH s : Nat) : Int) := by
      rw [hEP] at hin
      obtain ⟨p, q1, q2, q3⟩ := pkA_in (F := fun q => wAq s (wTe s) 0 (stK s) q + (if s 10 = -1 then 0 else wCo s (s 10) q)) hin (fun q => by
        have a1 := hA2 q
        have a2 := wCo_rng ho (s 10) q
        show wAq s (wTe s) 0 (stK s) q + (if s 10 = -1 then 0 else wCo s (s 10) q) < 2000000
        split <;> omega)
      rw [hstp, q3]
      omega
    refine g_aload0 dX6_step_66 ?_
    refine g_aload0 dX6_step_67 ?_
    refine f_getr (r := 93) rfl (by decide) rfl rfl fl_X6_7 dX6_step_68 ?_
    first | rw [hs0] | rw [hs1] | rw [hs2] | rw [hsk] | skip
    refine g_bipush dX6_step_71 (by decide) ?_
    refine f_iald rfl (by decide) ⟨by omega, by show _ < ((67 : Nat) : Int); omega⟩ dX6_step_73 ?_
    first | rw [hs0] | rw [hs1] | rw [hs2] | rw [hsk] | skip
    rw [hfr]
    refine g_aload0 dX6_step_74 ?_
    refine f_getr (r := 93) rfl (by decide) rfl rfl fl_X6_7 dX6_step_75 ?_
    first | rw [hs0] | rw [hs1] | rw [hs2] | rw [hsk] | skip
    refine g_bipush dX6_step_78 (by decide) ?_
    refine f_iald rfl (by decide) ⟨by omega, by show _ < ((67 : Nat) : Int); omega⟩ dX6_step_80 ?_
    first | rw [hs0] | rw [hs1] | rw [hs2] | rw [hsk] | skip
    refine f_cV2w (hfo) rfl (by decide) rfl oY_X6_firstOf oI_X6_firstOf lk_X6_174 rfl dX6_step_81 rfl (Or.inl rfl) ?_
    refine g_goto (tgt := 94) dX6_step_84 rfl ?_
    refine g_istore1 dX6_step_94 rfl (by decide) ?_
    refine g_aload0 dX6_step_95 ?_
    refine f_cV0m (keepsP (B := B) hM2 hs hn h8) rfl (by decide) rfl oY_X6_keeps oI_X6_keeps lk_X6_364 rfl dX6_step_96 (by omega) (by omega) rfl (Or.inl rfl) (fun σ96 l96 h96 => ?_)
    have elk := h96.1
    subst elk
    have hsk := h96.2.1
    have hSk := h96.2.2.1
    have hek : σ96 92 6 = 0 := h96.2.2.2.trans he2
    refine g_aload0 dX6_step_99 ?_
    refine f_getr (r := 93) rfl (by decide) rfl rfl fl_X6_7 dX6_step_100 ?_
    first | rw [hs0] | rw [hs1] | rw [hs2] | rw [hsk] | skip
    refine g_bipush dX6_step_103 (by decide) ?_
    refine g_aload0 dX6_step_105 ?_
    refine f_getr (r := 93) rfl (by decide) rfl rfl fl_X6_7 dX6_step_106 ?_
    first | rw [hs0] | rw [hs1] | rw [hs2] | rw [hsk] | skip
    refine g_bipush dX6_step_109 (by decide) ?_
    refine f_iald rfl (by decide) ⟨by omega, by show _ < ((67 : Nat) : Int); omega⟩ dX6_step_111 ?_
    first | rw [hs0] | rw [hs1] | rw [hs2] | rw [hsk] | skip
    refine g_iconst dX6_step_112 ?_
    refine g_iadd dX6_step_113 ?_
    refine g_aload0 dX6_step_114 ?_
    refine f_getr (r := 93) rfl (by decide) rfl rfl fl_X6_7 dX6_step_115 ?_
    first | rw [hs0] | rw [hs1] | rw [hs2] | rw [hsk] | skip
    refine g_bipush dX6_step_118 (by decide) ?_
    refine f_iald rfl (by decide) ⟨by omega, by show _ < ((67 : Nat) : Int); omega⟩ dX6_step_120 ?_
    first | rw [hs0] | rw [hs1] | rw [hs2] | rw [hsk] | skip
    refine g_irem ⟨by omega, by omega⟩ ⟨by omega, by omega⟩ dX6_step_121 ?_
    rw [show (s 12 + 1) % s 9 = stA s from by unfold stA; split; (exact Int.emod_eq_of_lt (by omega) (by omega)); (rw [show s 12 + 1 = s 9 from by omega]; exact Int.emod_self)]
    refine f_iast rfl (by decide) ⟨by omega, by show _ < ((67 : Nat) : Int); omega⟩ dX6_step_122 ?_
    have hs5 : up σ96 93 12 (stA s) 93 = su s 12 (stA s) := by
      funext j
      unfold su
      by_cases e : j = 12
      · rw [e, up_eq, if_pos rfl]
      · rw [up_ne (fun z => e z.2), if_neg e, hsk]
    refine g_aload0 dX6_step_123 ?_
    refine g_iload1 dX6_step_124 ?_
    refine f_cV1x (plays0_m hoA hs5 hsp) rfl (by decide) rfl oY_X6_plays0 oI_X6_plays0 lk_X6_379 rfl dX6_step_125 rfl (Or.inl rfl) ?_
    refine g_iretI rfl dX6_step_128 ?_
    have hS5 := (hSk.set 12 (stA s)).tn (stP s)
    have hS6 := hS5.rw (u := stS s) (by
      rw [← hrow]
      exact Rw.refl _)
    exact Ms.ret rfl hS6 (by rw [up_n (by decide), up_n (by decide), up_n (by decide)]; exact hek)
end C82
