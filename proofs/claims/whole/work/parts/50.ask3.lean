/-! HoleWhistle's questions: changes, the way -/
section C50
variable {g : gT} {σ : sT} {l : Nat → Nat}
theorem changeCost_hi {B : Int} {s : Int → Int} (hK : Kc σ l B s) (h1 : 1 ≤ σ 0 15) {p q : Int} (hx : R32 p) (hy : R32 q) (h : 0 ≤ p ∧ p < 2 * ((3 ^ wH s : Nat) : Int)) (h2 : 0 ≤ q ∧ q < 2 * ((3 ^ wH s : Nat) : Int)) : Fw g zX5_changeCost [.ref 0, iv p, iv q] σ l (iv (wCo s p q)) := by
  have ho := hK.ok
  have c1 := hK.st
  have hlv := hK.ca.lv
  have hp := p3_le ho.h7
  obtain ⟨F1, F2⟩ := hK.ca.p1 h1
  have hfc := hK.ca.fc
  have hrw : ∀ p, 0 ≤ p → p < 2 * ((3 ^ wH s : Nat) : Int) → 0 ≤ fgF ((3 ^ wH s : Nat) : Int) p ∧ fgF ((3 ^ wH s : Nat) : Int) p < ((3 ^ wH s : Nat) : Int) := fun p a0 a1 => fgF_rng a0 a1
  refine Fn.of [some (.ref 0), some (iv p), some (iv q)] rfl (by decide) (Nat.le_of_ble_eq_true rfl) rfl ?_
  refine g_aload0 dX5_changeCost_0 ?_
  refine f_getr (r := 1) rfl (by decide) rfl rfl fl_X5_10 dX5_changeCost_1 ?_
  refine g_aload0 dX5_changeCost_4 ?_
  refine f_getr (r := 17) rfl (by decide) rfl rfl fl_X5_53 dX5_changeCost_5 ?_
  refine g_iload1 dX5_changeCost_8 ?_
  refine f_cV1w (codeOf_ok (c := cdN (fgF ((3 ^ wH s : Nat) : Int) (p))) (by rw [F1.1, hfc.1]; omega) (by rw [F1.1]; exact h) (by rw [F1.1]; exact (hK.ca.fg _ (hrw _ h.1 h.2).1 (by have := (hrw _ h.1 h.2).2; omega)).1)) rfl (by decide) rfl oY_X1_codeOf oI_X1_codeOf lk_X5_222 rfl dX5_changeCost_9 rfl (Or.inl rfl) ?_
  rw [F1.1, show (cdN (fgF ((3 ^ wH s : Nat) : Int) (p)) ||| (if p < ((3 ^ wH s : Nat) : Int) then 0 else 16384) : Nat) = cdP ((3 ^ wH s : Nat) : Int) (p) from rfl]
  refine g_aload0 dX5_changeCost_12 ?_
  refine f_getr (r := 17) rfl (by decide) rfl rfl fl_X5_53 dX5_changeCost_13 ?_
  refine g_iload2 dX5_changeCost_16 ?_
  refine f_cV1w (codeOf_ok (c := cdN (fgF ((3 ^ wH s : Nat) : Int) (q))) (by rw [F1.1, hfc.1]; omega) (by rw [F1.1]; exact h2) (by rw [F1.1]; exact (hK.ca.fg _ (hrw _ h2.1 h2.2).1 (by have := (hrw _ h2.1 h2.2).2; omega)).1)) rfl (by decide) rfl oY_X1_codeOf oI_X1_codeOf lk_X5_222 rfl dX5_changeCost_17 rfl (Or.inl rfl) ?_
  rw [F1.1, show (cdN (fgF ((3 ^ wH s : Nat) : Int) (q)) ||| (if q < ((3 ^ wH s : Nat) : Int) then 0 else 16384) : Nat) = cdP ((3 ^ wH s : Nat) : Int) (q) from rfl]
  refine f_cV2w (priceOf_ok isSt1 (cdP_lt _ _) (cdP_lt _ _)) rfl (by decide) rfl oY_X3_priceOf oI_X3_priceOf lk_X5_236 rfl dX5_changeCost_20 rfl (Or.inl rfl) ?_
  rw [c1.f5, c1.f6, c1.f7, prC_coD ho.h7 h.1 h.2 h2.1 h2.2]
  refine g_iretI rfl dX5_changeCost_23 ?_
  exact Fw.ret rfl
theorem change_ok {B : Int} {s : Int → Int} (hK : Kc σ l B s) {p q : Int} (hx : R32 p) (hy : R32 q) (h : 0 ≤ p ∧ p < 2 * ((3 ^ wH s : Nat) : Int)) (h2 : 0 ≤ q ∧ q < 2 * ((3 ^ wH s : Nat) : Int)) : Fq g zX5_change [.ref 0, iv p, iv q] σ l B s (iv (wCo s p q)) := by
  have ho := hK.ok
  have hc := hK.st
  have hp := p3_le ho.h7
  have hp0 := p3_pos (wH s)
  have hNn : 2 * 3 ^ wH s ≤ 4374 := by omega
  have hNe : ((2 * 3 ^ wH s : Nat) : Int) = 2 * ((3 ^ wH s : Nat) : Int) := by push_cast; rfl
  obtain ⟨L, hL, hF⟩ := freshen_ok (g := g) (lev := 1) hK ⟨by decide, by decide⟩
  refine ⟨L, hL, Fn.of [some (.ref 0), some (iv p), some (iv q)] rfl (by decide) (Nat.le_of_ble_eq_true rfl) rfl ?_⟩
  refine g_aload0 dX5_change_0 ?_
  refine g_iload1 dX5_change_1 ?_
  refine f_cV1d (needPlay_ok ho hc hx h) rfl (by decide) rfl oY_X5_needPlay oI_X5_needPlay lk_X5_175 rfl dX5_change_2 rfl (Or.inl rfl) ?_
  refine g_aload0 dX5_change_5 ?_
  refine g_iload2 dX5_change_6 ?_
  refine f_cV1d (needPlay_ok ho hc hy h2) rfl (by decide) rfl oY_X5_needPlay oI_X5_needPlay lk_X5_175 rfl dX5_change_7 rfl (Or.inl rfl) ?_
  refine g_aload0 dX5_change_10 ?_
  refine g_iconst dX5_change_11 ?_
  refine f_cV1m (hF) rfl (by decide) rfl oY_X5_freshen oI_X5_freshen lk_X5_178 rfl dX5_change_12 (Nat.le_refl _) (Nat.le_refl _) rfl (okFb_of rfl) (fun σ12 l12 h12 => ?_)
  obtain ⟨hq, K1, hv, hL1⟩ := h12
  have c1 := K1.st
  obtain ⟨F1, F2⟩ := K1.ca.p1 (by omega)
  have hfc := K1.ca.fc
  have hrw : ∀ p, 0 ≤ p → p < 2 * ((3 ^ wH s : Nat) : Int) → 0 ≤ fgF ((3 ^ wH s : Nat) : Int) p ∧ fgF ((3 ^ wH s : Nat) : Int) p < ((3 ^ wH s : Nat) : Int) := fun p a0 a1 => fgF_rng a0 a1
  refine g_aload0 dX5_change_15 ?_
  refine g_iload1 dX5_change_16 ?_
  refine g_iload2 dX5_change_17 ?_
  refine f_cV2w (changeCost_hi K1 (by omega) hx hy h h2) rfl (by decide) rfl oY_X5_changeCost oI_X5_changeCost lk_X5_219 rfl dX5_change_18 rfl (Or.inl rfl) ?_
  refine g_iretI rfl dX5_change_21 ?_
  exact Fq.ret rfl hq K1 hL1
theorem change_bad1 {B : Int} {s : Int → Int} (ho : SOK B s) (hc : CSt σ 1 s) {p q : Int} (hx : R32 p) (h : ¬ (0 ≤ p ∧ p < 2 * ((3 ^ wH s : Nat) : Int))) : Ft g zX5_change [.ref 0, iv p, iv q] σ l 1 := by
  refine Fn.of [some (.ref 0), some (iv p), some (iv q)] rfl (by decide) (Nat.le_of_ble_eq_true rfl) rfl ?_
  refine g_aload0 dX5_change_0 ?_
  refine g_iload1 dX5_change_1 ?_
  refine f_cV1t (needPlay_bad ho hc hx h) rfl (by decide) rfl oY_X5_needPlay oI_X5_needPlay lk_X5_175 rfl dX5_change_2 (by omega) (by omega) rfl (Or.inl rfl) rfl ?_
  exact Ft.ret
theorem change_bad2 {B : Int} {s : Int → Int} (ho : SOK B s) (hc : CSt σ 1 s) {p q : Int} (hx : R32 p) (hy : R32 q) (h : 0 ≤ p ∧ p < 2 * ((3 ^ wH s : Nat) : Int)) (h2 : ¬ (0 ≤ q ∧ q < 2 * ((3 ^ wH s : Nat) : Int))) : Ft g zX5_change [.ref 0, iv p, iv q] σ l 1 := by
  refine Fn.of [some (.ref 0), some (iv p), some (iv q)] rfl (by decide) (Nat.le_of_ble_eq_true rfl) rfl ?_
  refine g_aload0 dX5_change_0 ?_
  refine g_iload1 dX5_change_1 ?_
  refine f_cV1d (needPlay_ok ho hc hx h) rfl (by decide) rfl oY_X5_needPlay oI_X5_needPlay lk_X5_175 rfl dX5_change_2 rfl (Or.inl rfl) ?_
  refine g_aload0 dX5_change_5 ?_
  refine g_iload2 dX5_change_6 ?_
  refine f_cV1t (needPlay_bad ho hc hy h2) rfl (by decide) rfl oY_X5_needPlay oI_X5_needPlay lk_X5_175 rfl dX5_change_7 (by omega) (by omega) rfl (Or.inl rfl) rfl ?_
  exact Ft.ret
theorem fingers_bad1 {B : Int} {s : Int → Int} (ho : SOK B s) (hc : CSt σ 1 s) {p q : Int} (hx : R32 p) (h : ¬ (0 ≤ p ∧ p < 2 * ((3 ^ wH s : Nat) : Int))) : Ft g zX5_fingers [.ref 0, iv p, iv q] σ l 1 := by
  refine Fn.of [some (.ref 0), some (iv p), some (iv q)] rfl (by decide) (Nat.le_of_ble_eq_true rfl) rfl ?_
  refine g_aload0 dX5_fingers_0 ?_
  refine g_iload1 dX5_fingers_1 ?_
  refine f_cV1t (needPlay_bad ho hc hx h) rfl (by decide) rfl oY_X5_needPlay oI_X5_needPlay lk_X5_175 rfl dX5_fingers_2 (by omega) (by omega) rfl (Or.inl rfl) rfl ?_
  exact Ft.ret
theorem fingers_bad2 {B : Int} {s : Int → Int} (ho : SOK B s) (hc : CSt σ 1 s) {p q : Int} (hx : R32 p) (hy : R32 q) (h : 0 ≤ p ∧ p < 2 * ((3 ^ wH s : Nat) : Int)) (h2 : ¬ (0 ≤ q ∧ q < 2 * ((3 ^ wH s : Nat) : Int))) : Ft g zX5_fingers [.ref 0, iv p, iv q] σ l 1 := by
  refine Fn.of [some (.ref 0), some (iv p), some (iv q)] rfl (by decide) (Nat.le_of_ble_eq_true rfl) rfl ?_
  refine g_aload0 dX5_fingers_0 ?_
  refine g_iload1 dX5_fingers_1 ?_
  refine f_cV1d (needPlay_ok ho hc hx h) rfl (by decide) rfl oY_X5_needPlay oI_X5_needPlay lk_X5_175 rfl dX5_fingers_2 rfl (Or.inl rfl) ?_
  refine g_aload0 dX5_fingers_5 ?_
  refine g_iload2 dX5_fingers_6 ?_
  refine f_cV1t (needPlay_bad ho hc hy h2) rfl (by decide) rfl oY_X5_needPlay oI_X5_needPlay lk_X5_175 rfl dX5_fingers_7 (by omega) (by omega) rfl (Or.inl rfl) rfl ?_
  exact Ft.ret
theorem prC_110 (c d : Nat) : prC 1 1 0 c d = (pc7 (dfH c d) : Int) := by
  unfold prC
  omega
theorem fingers_ok {B : Int} {s : Int → Int} (hK : Kc σ l B s) {p q : Int} (hx : R32 p) (hy : R32 q) (h : 0 ≤ p ∧ p < 2 * ((3 ^ wH s : Nat) : Int)) (h2 : 0 ≤ q ∧ q < 2 * ((3 ^ wH s : Nat) : Int)) : Fq g zX5_fingers [.ref 0, iv p, iv q] σ l B s (iv (coD 1 1 0 (wH s) p q)) := by
  have ho := hK.ok
  have hc := hK.st
  have hp := p3_le ho.h7
  have hp0 := p3_pos (wH s)
  have hNn : 2 * 3 ^ wH s ≤ 4374 := by omega
  have hNe : ((2 * 3 ^ wH s : Nat) : Int) = 2 * ((3 ^ wH s : Nat) : Int) := by push_cast; rfl
  obtain ⟨L, hL, hF⟩ := freshen_ok (g := g) (lev := 1) hK ⟨by decide, by decide⟩
  refine ⟨L, hL, Fn.of [some (.ref 0), some (iv p), some (iv q)] rfl (by decide) (Nat.le_of_ble_eq_true rfl) rfl ?_⟩
  refine g_aload0 dX5_fingers_0 ?_
  refine g_iload1 dX5_fingers_1 ?_
  refine f_cV1d (needPlay_ok ho hc hx h) rfl (by decide) rfl oY_X5_needPlay oI_X5_needPlay lk_X5_175 rfl dX5_fingers_2 rfl (Or.inl rfl) ?_
  refine g_aload0 dX5_fingers_5 ?_
  refine g_iload2 dX5_fingers_6 ?_
  refine f_cV1d (needPlay_ok ho hc hy h2) rfl (by decide) rfl oY_X5_needPlay oI_X5_needPlay lk_X5_175 rfl dX5_fingers_7 rfl (Or.inl rfl) ?_
  refine g_aload0 dX5_fingers_10 ?_
  refine g_iconst dX5_fingers_11 ?_
  refine f_cV1m (hF) rfl (by decide) rfl oY_X5_freshen oI_X5_freshen lk_X5_178 rfl dX5_fingers_12 (Nat.le_refl _) (Nat.le_refl _) rfl (okFb_of rfl) (fun σ12 l12 h12 => ?_)
  obtain ⟨hq, K1, hv, hL1⟩ := h12
  have c1 := K1.st
  obtain ⟨F1, F2⟩ := K1.ca.p1 (by omega)
  have hfc := K1.ca.fc
  have hrw : ∀ p, 0 ≤ p → p < 2 * ((3 ^ wH s : Nat) : Int) → 0 ≤ fgF ((3 ^ wH s : Nat) : Int) p ∧ fgF ((3 ^ wH s : Nat) : Int) p < ((3 ^ wH s : Nat) : Int) := fun p a0 a1 => fgF_rng a0 a1
  refine g_aload0 dX5_fingers_15 ?_
  refine f_getr (r := 17) rfl (by decide) rfl rfl fl_X5_53 dX5_fingers_16 ?_
  refine g_iload1 dX5_fingers_19 ?_
  refine f_cV1w (codeOf_ok (c := cdN (fgF ((3 ^ wH s : Nat) : Int) (p))) (by rw [F1.1, hfc.1]; omega) (by rw [F1.1]; exact h) (by rw [F1.1]; exact (K1.ca.fg _ (hrw _ h.1 h.2).1 (by have := (hrw _ h.1 h.2).2; omega)).1)) rfl (by decide) rfl oY_X1_codeOf oI_X1_codeOf lk_X5_222 rfl dX5_fingers_20 rfl (Or.inl rfl) ?_
  rw [F1.1, show (cdN (fgF ((3 ^ wH s : Nat) : Int) (p)) ||| (if p < ((3 ^ wH s : Nat) : Int) then 0 else 16384) : Nat) = cdP ((3 ^ wH s : Nat) : Int) (p) from rfl]
  refine g_aload0 dX5_fingers_23 ?_
  refine f_getr (r := 17) rfl (by decide) rfl rfl fl_X5_53 dX5_fingers_24 ?_
  refine g_iload2 dX5_fingers_27 ?_
  refine f_cV1w (codeOf_ok (c := cdN (fgF ((3 ^ wH s : Nat) : Int) (q))) (by rw [F1.1, hfc.1]; omega) (by rw [F1.1]; exact h2) (by rw [F1.1]; exact (K1.ca.fg _ (hrw _ h2.1 h2.2).1 (by have := (hrw _ h2.1 h2.2).2; omega)).1)) rfl (by decide) rfl oY_X1_codeOf oI_X1_codeOf lk_X5_222 rfl dX5_fingers_28 rfl (Or.inl rfl) ?_
  rw [F1.1, show (cdN (fgF ((3 ^ wH s : Nat) : Int) (q)) ||| (if q < ((3 ^ wH s : Nat) : Int) then 0 else 16384) : Nat) = cdP ((3 ^ wH s : Nat) : Int) (q) from rfl]
  refine f_cS2w (differingHoles_ok (cdP_lt _ _) (cdP_lt _ _)) oY_X5_differingHoles oT_X5_differingHoles lk_X5_225 rfl dX5_fingers_31 rfl (Or.inl rfl) ?_
  refine f_cS1w (bitCount_ok (dfH_lt _ _)) oY_J6_bitCount_0f7a4 oT_J6_bitCount_0f7a4 lk_X5_228 rfl dX5_fingers_34 rfl (Or.inl rfl) ?_
  rw [← prC_110, prC_coD ho.h7 h.1 h.2 h2.1 h2.2]
  refine g_iretI rfl dX5_fingers_37 ?_
  exact Fq.ret rfl hq K1 hL1
/-- the tones without an easy play, as bits -/
def wLkB (s : Int → Int) : Nat → Nat
  | 0 => 0
  | t + 1 => wLkB s t + (if (wEt s t).length = 0 then 2 ^ t else 0)
theorem lacking_ok {B : Int} {s : Int → Int} (hK : Kc σ l B s)  : Fq g zX5_lacking [.ref 0] σ l B s (iv (wLkB s 25 : Int)) := by
  have ho := hK.ok
  have hc := hK.st
  have hp := p3_le ho.h7
  have hp0 := p3_pos (wH s)
  have hNn : 2 * 3 ^ wH s ≤ 4374 := by omega
  have hNe : ((2 * 3 ^ wH s : Nat) : Int) = 2 * ((3 ^ wH s : Nat) : Int) := by push_cast; rfl
  obtain ⟨L, hL, hF⟩ := freshen_ok (g := g) (lev := 2) hK ⟨by decide, by decide⟩
  refine ⟨L, hL, Fn.of [some (.ref 0), none, none] rfl (by decide) (Nat.le_of_ble_eq_true rfl) rfl ?_⟩
  refine g_aload0 dX5_lacking_0 ?_
  refine g_iconst dX5_lacking_1 ?_
  refine f_cV1m (hF) rfl (by decide) rfl oY_X5_freshen oI_X5_freshen lk_X5_178 rfl dX5_lacking_2 (Nat.le_refl _) (Nat.le_refl _) rfl (okFb_of rfl) (fun σ2 l2 h2 => ?_)
  obtain ⟨hq, K1, hv, hL1⟩ := h2
  have c1 := K1.st
  obtain ⟨F1, F2⟩ := K1.ca.p1 (by omega)
  have hfc := K1.ca.fc
  have hrw : ∀ p, 0 ≤ p → p < 2 * ((3 ^ wH s : Nat) : Int) → 0 ≤ fgF ((3 ^ wH s : Nat) : Int) p ∧ fgF ((3 ^ wH s : Nat) : Int) p < ((3 ^ wH s : Nat) : Int) := fun p a0 a1 => fgF_rng a0 a1
  obtain ⟨hCh, G2⟩ := K1.ca.p2 (by omega)
  have loop : ∀ q : Nat, q ≤ 25 → ∀ (i x : Int), i = (q : Int) → x = (wLkB s q : Int) → FW g zX5_lacking (pcL l - pcL L - (pcL l - pcL L)) (psL l - psL L - (psL l - psL L)) (fun o τ l' => o = .inl (some (iv (wLkB s 25 : Int))) ∧ Qf σ τ ∧ Kc τ l' B s ∧ LE2 L l') 9 [some (.ref 0), some (iv x), some (iv i)] [] σ2 l2 := by
    refine loopUp 25 (fun q hq2 ih i x hi hx => ?_)
    subst hi
    refine g_iload2 dX5_lacking_9 ?_
    refine g_bipush dX5_lacking_10 (by decide) ?_
    refine g_icmp_ge ⟨by omega, by omega⟩ ⟨by decide, by decide⟩ (tgt := 38) dX5_lacking_12 rfl (fun h12 => ?_) (fun h12 => ?_)
    · refine g_iload1 dX5_lacking_38 ?_
      refine g_iretI rfl dX5_lacking_39 ?_
      have e9 : q = 25 := by omega
      subst e9
      refine Fq.ret ?_ hq K1 hL1
      rw [hx]
    · refine g_aload0 dX5_lacking_15 ?_
      refine f_getr (r := 24) rfl (by decide) rfl rfl fl_X5_60 dX5_lacking_16 ?_
      refine g_iload2 dX5_lacking_19 ?_
      refine f_cV1w (countOf_ok isCh24 ⟨by omega, by omega⟩) rfl (by decide) rfl oY_X0_countOf oI_X0_countOf lk_X5_201 rfl dX5_lacking_20 rfl (Or.inl rfl) ?_
      obtain ⟨fs, hat, hct, hlen, hfs0, hfs1, hqA⟩ := tone_w (l := l2) ho hCh (q : Int)
      rw [hct]
      refine g_if_ne ⟨by omega, by omega⟩ (tgt := 32) dX5_lacking_23 rfl (fun h23 => ?_) (fun h23 => ?_)
      · refine g_iinc2 dX5_lacking_32 rfl (by decide) ?_
        refine g_goto (tgt := 9) dX5_lacking_35 rfl ?_
        first
          | exact ih (by omega) _ _ (by push_cast; omega) (by rw [hx, wLkB, if_pos (by omega)]; push_cast; omega)
          | exact ih (by omega) _ _ (by push_cast; omega) (by rw [hx, wLkB, if_neg (by omega)]; rfl)
      · refine g_iload1 dX5_lacking_26 ?_
        refine g_iconst dX5_lacking_27 ?_
        refine g_iload2 dX5_lacking_28 ?_
        refine g_ishl (by omega) dX5_lacking_29 ?_
        refine g_iadd dX5_lacking_30 ?_
        refine g_istore1 dX5_lacking_31 rfl (by decide) ?_
        refine g_iinc2 dX5_lacking_32 rfl (by decide) ?_
        refine g_goto (tgt := 9) dX5_lacking_35 rfl ?_
        first
          | exact ih (by omega) _ _ (by push_cast; omega) (by rw [hx, wLkB, if_pos (by omega)]; push_cast; omega)
          | exact ih (by omega) _ _ (by push_cast; omega) (by rw [hx, wLkB, if_neg (by omega)]; rfl)
  refine g_iconst dX5_lacking_5 ?_
  refine g_istore1 dX5_lacking_6 rfl (by decide) ?_
  refine g_iconst dX5_lacking_7 ?_
  refine g_istore2 dX5_lacking_8 rfl (by decide) ?_
  exact loop 0 (Nat.zero_le _) _ _ rfl rfl
theorem lkF_congr {Q Q' : Nat → Bool} {n : Nat} (h : ∀ k, k < n → Q k = Q' k) : ∀ f k, k + f ≤ n → lkF Q f k = lkF Q' f k := by
  intro f
  induction f with
  | zero => intro k _; rfl
  | succ f ih =>
    intro k hk
    unfold lkF
    rw [h k (by omega), ih (k + 1) (by omega)]
def wLkQ (s TE : Int → Int) (b : Int) (k : Nat) : Bool := decide (wTu s k ≠ -1) && decide ((EP TE (2 * 3 ^ wH s) (wTu s k + b)).length = 0)
/-- the first note from one on without a play -/
def wLk (s TE : Int → Int) (b : Int) (pl : Nat) : Int := lkF (wLkQ s TE b) (wN s - pl) pl
theorem lkF_rng {Q : Nat → Bool} : ∀ f k : Nat, -1 ≤ lkF Q f k ∧ lkF Q f k < ((k + f : Nat) : Int) := by
  intro f
  induction f with
  | zero => intro k; exact ⟨Int.le_refl _, by show (-1 : Int) < _; omega⟩
  | succ f ih =>
    intro k
    unfold lkF
    split
    · omega
    · have := ih (k + 1); omega
theorem wLk_rng {s TE : Int → Int} {b : Int} {pl : Nat} (h : pl ≤ wN s) : -1 ≤ wLk s TE b pl ∧ wLk s TE b pl < (wN s : Int) := by
  have := lkF_rng (Q := wLkQ s TE b) (wN s - pl) pl
  unfold wLk
  omega
theorem lackingFrom_s {B : Int} {s TE T : Int → Int} {o pl : Nat} {b : Int} (ho : SOK B s) (hc : CSt σ 1 s) (hs : isCh o) (hCh : ChO σ o TE T ((3 ^ wH s : Nat) : Int) (2 * 3 ^ wH s)) (hp : pl ≤ wN s) (hb : -12 ≤ b ∧ b ≤ 12) : Fw g zX0_lackingFrom [.ref o, .ref 1, iv (pl : Int), iv b] σ l (iv (wLk s TE b pl)) := by
  have hp7 := p3_le ho.h7
  have h0 := lackingFrom_ok (g := g) (l := l) (b := b) hs (hc.N ho) ho.n40 hp (hc.t4 ho) hb (fun t a0 a1 => by
    have e := hCh.1 t.toNat (by omega)
    rw [show ((t.toNat : Nat) : Int) = t from by omega] at e
    have a2 := frI_le TE (2 * 3 ^ wH s) t.toNat
    rw [e]
    omega)
  rw [lkF_congr (n := wN s) (Q' := wLkQ s TE b) (fun k hk => by
    have e : σ 4 k = wTu s k := hc.tu k (by omega) (by rw [ho.nI]; omega)
    obtain ⟨_, _, a1, _⟩ := tone_of (l := l) hs hCh (by omega) (wTu s k + b)
    unfold lkQ wLkQ
    rw [e, a1]
    congr 1
    simp) _ _ (by omega)] at h0
  exact h0
theorem firstLacking_ok {B : Int} {s : Int → Int} (hK : Kc σ l B s)  : Fq g zX5_firstLacking [.ref 0] σ l B s (iv (wLk s (wTe s) 0 0)) := by
  have ho := hK.ok
  have hc := hK.st
  have hp := p3_le ho.h7
  have hp0 := p3_pos (wH s)
  have hNn : 2 * 3 ^ wH s ≤ 4374 := by omega
  have hNe : ((2 * 3 ^ wH s : Nat) : Int) = 2 * ((3 ^ wH s : Nat) : Int) := by push_cast; rfl
  obtain ⟨L, hL, hF⟩ := freshen_ok (g := g) (lev := 2) hK ⟨by decide, by decide⟩
  refine ⟨L, hL, Fn.of [some (.ref 0)] rfl (by decide) (Nat.le_of_ble_eq_true rfl) rfl ?_⟩
  refine g_aload0 dX5_firstLacking_0 ?_
  refine g_iconst dX5_firstLacking_1 ?_
  refine f_cV1m (hF) rfl (by decide) rfl oY_X5_freshen oI_X5_freshen lk_X5_178 rfl dX5_firstLacking_2 (Nat.le_refl _) (Nat.le_refl _) rfl (okFb_of rfl) (fun σ2 l2 h2 => ?_)
  obtain ⟨hq, K1, hv, hL1⟩ := h2
  have c1 := K1.st
  obtain ⟨F1, F2⟩ := K1.ca.p1 (by omega)
  have hfc := K1.ca.fc
  have hrw : ∀ p, 0 ≤ p → p < 2 * ((3 ^ wH s : Nat) : Int) → 0 ≤ fgF ((3 ^ wH s : Nat) : Int) p ∧ fgF ((3 ^ wH s : Nat) : Int) p < ((3 ^ wH s : Nat) : Int) := fun p a0 a1 => fgF_rng a0 a1
  obtain ⟨hCh, G2⟩ := K1.ca.p2 (by omega)
  refine g_aload0 dX5_firstLacking_5 ?_
  refine f_getr (r := 24) rfl (by decide) rfl rfl fl_X5_60 dX5_firstLacking_6 ?_
  refine g_aload0 dX5_firstLacking_9 ?_
  refine f_getr (r := 1) rfl (by decide) rfl rfl fl_X5_10 dX5_firstLacking_10 ?_
  refine g_iconst dX5_firstLacking_13 ?_
  refine g_iconst dX5_firstLacking_14 ?_
  refine f_cV3w (lackingFrom_s (TE := wTe s) ho c1 isCh24 hCh (pl := 0) (Nat.zero_le _) ⟨by decide, by decide⟩) rfl (by decide) rfl oY_X0_lackingFrom oI_X0_lackingFrom lk_X5_245 rfl dX5_firstLacking_15 rfl (Or.inl rfl) ?_
  refine g_iretI rfl dX5_firstLacking_18 ?_
  exact Fq.ret rfl hq K1 hL1
theorem isPlayable_ok {B : Int} {s : Int → Int} (hK : Kc σ l B s)  : Fq g zX5_isPlayable [.ref 0] σ l B s (bv (wLk s (wTe s) 0 0 = -1)) := by
  have ho := hK.ok
  have hc := hK.st
  have hp := p3_le ho.h7
  have hp0 := p3_pos (wH s)
  have hNn : 2 * 3 ^ wH s ≤ 4374 := by omega
  have hNe : ((2 * 3 ^ wH s : Nat) : Int) = 2 * ((3 ^ wH s : Nat) : Int) := by push_cast; rfl
  obtain ⟨L, hL, hF⟩ := freshen_ok (g := g) (lev := 2) hK ⟨by decide, by decide⟩
  refine ⟨L, hL, Fn.of [some (.ref 0)] rfl (by decide) (Nat.le_of_ble_eq_true rfl) rfl ?_⟩
  refine g_aload0 dX5_isPlayable_0 ?_
  refine g_iconst dX5_isPlayable_1 ?_
  refine f_cV1m (hF) rfl (by decide) rfl oY_X5_freshen oI_X5_freshen lk_X5_178 rfl dX5_isPlayable_2 (Nat.le_refl _) (Nat.le_refl _) rfl (okFb_of rfl) (fun σ2 l2 h2 => ?_)
  obtain ⟨hq, K1, hv, hL1⟩ := h2
  have c1 := K1.st
  obtain ⟨F1, F2⟩ := K1.ca.p1 (by omega)
  have hfc := K1.ca.fc
  have hrw : ∀ p, 0 ≤ p → p < 2 * ((3 ^ wH s : Nat) : Int) → 0 ≤ fgF ((3 ^ wH s : Nat) : Int) p ∧ fgF ((3 ^ wH s : Nat) : Int) p < ((3 ^ wH s : Nat) : Int) := fun p a0 a1 => fgF_rng a0 a1
  obtain ⟨hCh, G2⟩ := K1.ca.p2 (by omega)
  refine g_aload0 dX5_isPlayable_5 ?_
  refine f_getr (r := 24) rfl (by decide) rfl rfl fl_X5_60 dX5_isPlayable_6 ?_
  refine g_aload0 dX5_isPlayable_9 ?_
  refine f_getr (r := 1) rfl (by decide) rfl rfl fl_X5_10 dX5_isPlayable_10 ?_
  refine g_iconst dX5_isPlayable_13 ?_
  refine g_iconst dX5_isPlayable_14 ?_
  refine f_cV3w (lackingFrom_s (TE := wTe s) ho c1 isCh24 hCh (pl := 0) (Nat.zero_le _) ⟨by decide, by decide⟩) rfl (by decide) rfl oY_X0_lackingFrom oI_X0_lackingFrom lk_X5_245 rfl dX5_isPlayable_15 rfl (Or.inl rfl) ?_
  refine g_iconst dX5_isPlayable_18 ?_
  refine g_icmp_ne ⟨by have := wLk_rng (s := s) (TE := wTe s) (b := 0) (Nat.zero_le _); omega, by have := wLk_rng (s := s) (TE := wTe s) (b := 0) (Nat.zero_le _); have := ho.n40; omega⟩ ⟨by decide, by decide⟩ (tgt := 26) dX5_isPlayable_19 rfl (fun h19 => ?_) (fun h19 => ?_)
  · refine g_iconst dX5_isPlayable_26 ?_
    refine g_iretB (Or.inl rfl) rfl dX5_isPlayable_27 ?_
    exact Fq.ret (by simp only [bv]; first | rw [if_pos (by omega)] | rw [if_neg (by omega)]) hq K1 hL1
  · refine g_iconst dX5_isPlayable_22 ?_
    refine g_goto (tgt := 27) dX5_isPlayable_23 rfl ?_
    refine g_iretB (Or.inr rfl) rfl dX5_isPlayable_27 ?_
    exact Fq.ret (by simp only [bv]; first | rw [if_pos (by omega)] | rw [if_neg (by omega)]) hq K1 hL1
def wEs (s : Int → Int) : Nat → List Nat := wE (wTe s) (wTu s) (wH s) 0
def wAh (s : Int → Int) : Nat → Int → Int := wA (wCo s) (wEs s) (wTu s) (wN s)
/-- what the easiest way costs; the play behind which k notes stand -/
def wTot (s : Int → Int) : Int := wyT (wTu s) (wAh s) (wCo s) (wEs s) (wN s)
def wWp (s : Int → Int) (k : Nat) : Int := wpF (wTu s) (wAh s) (wCo s) (wEs s) k
theorem wCo_rng {B : Int} {s : Int → Int} (ho : SOK B s) (p q : Int) : 0 ≤ wCo s p q ∧ wCo s p q ≤ 72 := by
  have b1 := ho.move
  have b2 := ho.half
  have b3 := ho.breath
  exact ⟨coD_ge (by omega) (by omega) (by omega), coD_le (by omega) (by omega) (by omega) ho.h7⟩
theorem wTot_rng {B : Int} {s : Int → Int} (ho : SOK B s) : -1 ≤ wTot s ∧ wTot s ≤ 2880 := by
  have h1 := wyT_rng (tu := wTu s) (AH := wAh s) (E := wEs s) (wCo_rng ho) (wN s)
  have := ho.n40
  unfold wTot
  omega
theorem wWp_rng {B : Int} {s : Int → Int} (ho : SOK B s) (k : Nat) : -1 ≤ wWp s k ∧ wWp s k < 2 * ((3 ^ wH s : Nat) : Int) := wpF_rng (n := 0) (wCo_rng ho) (fun z p => wA_rng (fun p q => (wCo_rng ho p q).1) _ _ _) k
theorem way_0 {s : Int → Int} (hW : WyO σ l 40 (wN s) (wH s) 0 (wCo s) (wTu s) (wTE s (s 4) (s 5)) (wRw s (wTE s (s 4) (s 5)) 0)) : σ 40 0 = wTot s := hW.1
theorem way_k {s : Int → Int} (hW : WyO σ l 40 (wN s) (wH s) 0 (wCo s) (wTu s) (wTE s (s 4) (s 5)) (wRw s (wTE s (s 4) (s 5)) 0)) (h : wTot s ≠ -1) (k : Nat) (hk : k < wN s) : σ 41 k = wWp s (k + 1) ∧ σ 42 k = cdZ ((3 ^ wH s : Nat) : Int) (wWp s (k + 1)) := hW.2.1 h k hk
theorem way_cd {B : Int} {s : Int → Int} (ho : SOK B s) (hW : WyO σ l 40 (wN s) (wH s) 0 (wCo s) (wTu s) (wTE s (s 4) (s 5)) (wRw s (wTE s (s 4) (s 5)) 0)) (h : wTot s ≠ -1) {j : Int} (h0 : 0 ≤ j) (h1 : j < s 9) : okCd (σ 42 j) := by
  rw [ho.nI] at h1
  have e := (way_k hW h j.toNat (by omega)).2
  rw [show ((j.toNat : Nat) : Int) = j from by omega] at e
  rw [e]
  exact cdZ_ok _ _
theorem way_pt {B : Int} {s : Int → Int} (ho : SOK B s) (hW : WyO σ l 40 (wN s) (wH s) 0 (wCo s) (wTu s) (wTE s (s 4) (s 5)) (wRw s (wTE s (s 4) (s 5)) 0)) (h : wTot s ≠ -1) (k : Nat) (hk : k < wN s) : ptF (s 6) (s 7) (s 8) (σ 42) k = chg (wCo s) (wWp s k) (wWp s (k + 1)) := by
  have e := (way_k hW h k hk).2
  have r2 := wWp_rng ho (k + 1)
  unfold ptF chg
  rcases k with _ | k
  · rw [if_neg (fun z => by omega), if_pos (Or.inl (show wWp s 0 = -1 from rfl))]
  · have e1 := (way_k hW h k (by omega)).2
    have r1 := wWp_rng ho (k + 1)
    rw [show ((k + 1 : Nat) : Int) - 1 = (k : Int) from by omega, e, e1]
    by_cases c0 : wWp s (k + 1) = -1
    · rw [if_pos (Or.inl c0), if_neg (fun z => z.2.1 (by unfold cdZ; rw [if_pos c0]))]
    · by_cases c1 : wWp s (k + 1 + 1) = -1
      · rw [if_pos (Or.inr c1), if_neg (fun z => z.2.2 (by unfold cdZ; rw [if_pos c1]))]
      · rw [if_pos ⟨by omega, cdZ_ne c0, cdZ_ne c1⟩, if_neg (fun z => z.elim c0 c1)]
        unfold cdZ
        rw [if_neg c0, if_neg c1, Int.toNat_natCast, Int.toNat_natCast, prC_coD ho.h7 (by omega) r1.2 (by omega) r2.2]
theorem cost_ok {B : Int} {s : Int → Int} (hK : Kc σ l B s)  : Fq g zX5_cost [.ref 0] σ l B s (iv (wTot s)) := by
  have ho := hK.ok
  have hc := hK.st
  have hp := p3_le ho.h7
  have hp0 := p3_pos (wH s)
  have hNn : 2 * 3 ^ wH s ≤ 4374 := by omega
  have hNe : ((2 * 3 ^ wH s : Nat) : Int) = 2 * ((3 ^ wH s : Nat) : Int) := by push_cast; rfl
  obtain ⟨L, hL, hF⟩ := freshen_ok (g := g) (lev := 3) hK ⟨by decide, by decide⟩
  refine ⟨L, hL, Fn.of [some (.ref 0)] rfl (by decide) (Nat.le_of_ble_eq_true rfl) rfl ?_⟩
  refine g_aload0 dX5_cost_0 ?_
  refine g_iconst dX5_cost_1 ?_
  refine f_cV1m (hF) rfl (by decide) rfl oY_X5_freshen oI_X5_freshen lk_X5_178 rfl dX5_cost_2 (Nat.le_refl _) (Nat.le_refl _) rfl (okFb_of rfl) (fun σ2 l2 h2 => ?_)
  obtain ⟨hq, K1, hv, hL1⟩ := h2
  have c1 := K1.st
  obtain ⟨F1, F2⟩ := K1.ca.p1 (by omega)
  have hfc := K1.ca.fc
  have hrw : ∀ p, 0 ≤ p → p < 2 * ((3 ^ wH s : Nat) : Int) → 0 ≤ fgF ((3 ^ wH s : Nat) : Int) p ∧ fgF ((3 ^ wH s : Nat) : Int) p < ((3 ^ wH s : Nat) : Int) := fun p a0 a1 => fgF_rng a0 a1
  obtain ⟨hCh, G2⟩ := K1.ca.p2 (by omega)
  have hW := K1.ca.p3 (by omega)
  refine g_aload0 dX5_cost_5 ?_
  refine f_getr (r := 40) rfl (by decide) rfl rfl fl_X5_70 dX5_cost_6 ?_
  refine f_geti (J := 0) rfl (by decide) rfl rfl fl_X5_249 dX5_cost_9 ?_
  rw [way_0 hW]
  refine g_iretI rfl dX5_cost_12 ?_
  exact Fq.ret rfl hq K1 hL1
theorem wayPlay_ok {B : Int} {s : Int → Int} (hK : Kc σ l B s) {k : Nat} (h : k < wN s) : Fq g zX5_wayPlay [.ref 0, iv (k : Int)] σ l B s (iv (if wTot s = -1 then -1 else wWp s (k + 1))) := by
  have ho := hK.ok
  have hc := hK.st
  have hp := p3_le ho.h7
  have hp0 := p3_pos (wH s)
  have hNn : 2 * 3 ^ wH s ≤ 4374 := by omega
  have hNe : ((2 * 3 ^ wH s : Nat) : Int) = 2 * ((3 ^ wH s : Nat) : Int) := by push_cast; rfl
  have hn40 := ho.n40
  obtain ⟨L, hL, hF⟩ := freshen_ok (g := g) (lev := 3) hK ⟨by decide, by decide⟩
  refine ⟨L, hL, Fn.of [some (.ref 0), some (iv (k : Int))] rfl (by decide) (Nat.le_of_ble_eq_true rfl) rfl ?_⟩
  refine g_aload0 dX5_wayPlay_0 ?_
  refine g_iload1 dX5_wayPlay_1 ?_
  refine f_cV1d (needNote_ok ho hc ⟨by omega, by omega⟩ ⟨by omega, by rw [ho.nI]; omega⟩) rfl (by decide) rfl oY_X5_needNote oI_X5_needNote lk_X5_239 rfl dX5_wayPlay_2 rfl (Or.inl rfl) ?_
  refine g_aload0 dX5_wayPlay_5 ?_
  refine g_iconst dX5_wayPlay_6 ?_
  refine f_cV1m (hF) rfl (by decide) rfl oY_X5_freshen oI_X5_freshen lk_X5_178 rfl dX5_wayPlay_7 (Nat.le_refl _) (Nat.le_refl _) rfl (okFb_of rfl) (fun σ7 l7 h7 => ?_)
  obtain ⟨hq, K1, hv, hL1⟩ := h7
  have c1 := K1.st
  obtain ⟨F1, F2⟩ := K1.ca.p1 (by omega)
  have hfc := K1.ca.fc
  have hrw : ∀ p, 0 ≤ p → p < 2 * ((3 ^ wH s : Nat) : Int) → 0 ≤ fgF ((3 ^ wH s : Nat) : Int) p ∧ fgF ((3 ^ wH s : Nat) : Int) p < ((3 ^ wH s : Nat) : Int) := fun p a0 a1 => fgF_rng a0 a1
  obtain ⟨hCh, G2⟩ := K1.ca.p2 (by omega)
  have hW := K1.ca.p3 (by omega)
  refine g_aload0 dX5_wayPlay_10 ?_
  refine f_getr (r := 40) rfl (by decide) rfl rfl fl_X5_70 dX5_wayPlay_11 ?_
  refine f_geti (J := 0) rfl (by decide) rfl rfl fl_X5_249 dX5_wayPlay_14 ?_
  rw [way_0 hW]
  have hTr := wTot_rng ho
  refine g_iconst dX5_wayPlay_17 ?_
  refine g_icmp_ne ⟨by omega, by omega⟩ ⟨by decide, by decide⟩ (tgt := 25) dX5_wayPlay_18 rfl (fun h18 => ?_) (fun h18 => ?_)
  · refine g_aload0 dX5_wayPlay_25 ?_
    refine f_getr (r := 40) rfl (by decide) rfl rfl fl_X5_70 dX5_wayPlay_26 ?_
    refine f_getr (r := 41) rfl (by decide) rfl rfl fl_X5_252 dX5_wayPlay_29 ?_
    refine g_iload1 dX5_wayPlay_32 ?_
    refine f_cS2w (atI rfl (by decide) (by omega) (by show (k : Int) < (40 : Nat); omega)) oY_X5_at oT_X5_at lk_X5_164 rfl dX5_wayPlay_33 rfl (Or.inl rfl) ?_
    rw [(way_k hW h18 k h).1]
    refine g_iretI rfl dX5_wayPlay_36 ?_
    first
      | exact Fq.ret (by rw [if_neg h18]) hq K1 hL1
      | exact Fq.ret (by rw [if_pos h18]) hq K1 hL1
  · refine g_iconst dX5_wayPlay_21 ?_
    refine g_goto (tgt := 36) dX5_wayPlay_22 rfl ?_
    refine g_iretI rfl dX5_wayPlay_36 ?_
    first
      | exact Fq.ret (by rw [if_neg h18]) hq K1 hL1
      | exact Fq.ret (by rw [if_pos h18]) hq K1 hL1
theorem wayChange_ok {B : Int} {s : Int → Int} (hK : Kc σ l B s) {k : Nat} (h : k < wN s) : Fq g zX5_wayChange [.ref 0, iv (k : Int)] σ l B s (iv (if wTot s = -1 then -1 else chg (wCo s) (wWp s k) (wWp s (k + 1)))) := by
  have ho := hK.ok
  have hc := hK.st
  have hp := p3_le ho.h7
  have hp0 := p3_pos (wH s)
  have hNn : 2 * 3 ^ wH s ≤ 4374 := by omega
  have hNe : ((2 * 3 ^ wH s : Nat) : Int) = 2 * ((3 ^ wH s : Nat) : Int) := by push_cast; rfl
  have hn40 := ho.n40
  obtain ⟨L, hL, hF⟩ := freshen_ok (g := g) (lev := 3) hK ⟨by decide, by decide⟩
  refine ⟨L, hL, Fn.of [some (.ref 0), some (iv (k : Int))] rfl (by decide) (Nat.le_of_ble_eq_true rfl) rfl ?_⟩
  refine g_aload0 dX5_wayChange_0 ?_
  refine g_iload1 dX5_wayChange_1 ?_
  refine f_cV1d (needNote_ok ho hc ⟨by omega, by omega⟩ ⟨by omega, by rw [ho.nI]; omega⟩) rfl (by decide) rfl oY_X5_needNote oI_X5_needNote lk_X5_239 rfl dX5_wayChange_2 rfl (Or.inl rfl) ?_
  refine g_aload0 dX5_wayChange_5 ?_
  refine g_iconst dX5_wayChange_6 ?_
  refine f_cV1m (hF) rfl (by decide) rfl oY_X5_freshen oI_X5_freshen lk_X5_178 rfl dX5_wayChange_7 (Nat.le_refl _) (Nat.le_refl _) rfl (okFb_of rfl) (fun σ7 l7 h7 => ?_)
  obtain ⟨hq, K1, hv, hL1⟩ := h7
  have c1 := K1.st
  obtain ⟨F1, F2⟩ := K1.ca.p1 (by omega)
  have hfc := K1.ca.fc
  have hrw : ∀ p, 0 ≤ p → p < 2 * ((3 ^ wH s : Nat) : Int) → 0 ≤ fgF ((3 ^ wH s : Nat) : Int) p ∧ fgF ((3 ^ wH s : Nat) : Int) p < ((3 ^ wH s : Nat) : Int) := fun p a0 a1 => fgF_rng a0 a1
  obtain ⟨hCh, G2⟩ := K1.ca.p2 (by omega)
  have hW := K1.ca.p3 (by omega)
  refine g_aload0 dX5_wayChange_10 ?_
  refine f_getr (r := 40) rfl (by decide) rfl rfl fl_X5_70 dX5_wayChange_11 ?_
  refine f_geti (J := 0) rfl (by decide) rfl rfl fl_X5_249 dX5_wayChange_14 ?_
  rw [way_0 hW]
  have hTr := wTot_rng ho
  refine g_iconst dX5_wayChange_17 ?_
  refine g_icmp_ne ⟨by omega, by omega⟩ ⟨by decide, by decide⟩ (tgt := 25) dX5_wayChange_18 rfl (fun h18 => ?_) (fun h18 => ?_)
  · refine g_aload0 dX5_wayChange_25 ?_
    refine f_getr (r := 40) rfl (by decide) rfl rfl fl_X5_70 dX5_wayChange_26 ?_
    refine g_aload0 dX5_wayChange_29 ?_
    refine f_getr (r := 1) rfl (by decide) rfl rfl fl_X5_10 dX5_wayChange_30 ?_
    refine g_iload1 dX5_wayChange_33 ?_
    refine f_cV2w (priceTo_ok isWy40 ⟨by omega, by omega⟩ (fun z => way_cd ho hW h18 (by omega) (by rw [ho.nI]; omega)) (way_cd ho hW h18 (by omega) (by rw [ho.nI]; omega))) rfl (by decide) rfl oY_X4_priceTo oI_X4_priceTo lk_X5_255 rfl dX5_wayChange_34 rfl (Or.inl rfl) ?_
    rw [c1.f5, c1.f6, c1.f7, way_pt ho hW h18 k h]
    refine g_iretI rfl dX5_wayChange_37 ?_
    first
      | exact Fq.ret (by rw [if_neg h18]) hq K1 hL1
      | exact Fq.ret (by rw [if_pos h18]) hq K1 hL1
  · refine g_iconst dX5_wayChange_21 ?_
    refine g_goto (tgt := 37) dX5_wayChange_22 rfl ?_
    refine g_iretI rfl dX5_wayChange_37 ?_
    first
      | exact Fq.ret (by rw [if_neg h18]) hq K1 hL1
      | exact Fq.ret (by rw [if_pos h18]) hq K1 hL1
theorem wayPlay_bad {B : Int} {s : Int → Int} (ho : SOK B s) (hc : CSt σ 1 s) {x : Int} (hx : R32 x) (h : ¬ (0 ≤ x ∧ x < s 9)) : Ft g zX5_wayPlay [.ref 0, iv x] σ l 1 := by
  refine Fn.of [some (.ref 0), some (iv x)] rfl (by decide) (Nat.le_of_ble_eq_true rfl) rfl ?_
  refine g_aload0 dX5_wayPlay_0 ?_
  refine g_iload1 dX5_wayPlay_1 ?_
  refine f_cV1t (needNote_bad ho hc hx h) rfl (by decide) rfl oY_X5_needNote oI_X5_needNote lk_X5_239 rfl dX5_wayPlay_2 (by omega) (by omega) rfl (Or.inl rfl) rfl ?_
  exact Ft.ret
theorem wayChange_bad {B : Int} {s : Int → Int} (ho : SOK B s) (hc : CSt σ 1 s) {x : Int} (hx : R32 x) (h : ¬ (0 ≤ x ∧ x < s 9)) : Ft g zX5_wayChange [.ref 0, iv x] σ l 1 := by
  refine Fn.of [some (.ref 0), some (iv x)] rfl (by decide) (Nat.le_of_ble_eq_true rfl) rfl ?_
  refine g_aload0 dX5_wayChange_0 ?_
  refine g_iload1 dX5_wayChange_1 ?_
  refine f_cV1t (needNote_bad ho hc hx h) rfl (by decide) rfl oY_X5_needNote oI_X5_needNote lk_X5_239 rfl dX5_wayChange_2 (by omega) (by omega) rfl (Or.inl rfl) rfl ?_
  exact Ft.ret
/-- the first greatest of n, from -1: its place, itself -/
def hmF (f : Nat → Int) : Nat → Int × Int
  | 0 => (-1, -1)
  | n + 1 => if (hmF f n).2 < f n then ((n : Int), f n) else hmF f n
theorem hmF_rng {f : Nat → Int} (n : Nat) (h : ∀ i, i < n → f i ≤ 1000) : -1 ≤ (hmF f n).2 ∧ (hmF f n).2 ≤ 1000 := by
  induction n with
  | zero => exact ⟨Int.le_refl _, by show (-1 : Int) ≤ 1000; decide⟩
  | succ n ih =>
    have h1 := ih (fun i hi => h i (by omega))
    have h2 := h n (by omega)
    unfold hmF
    split
    · dsimp only; omega
    · exact h1
theorem chg_rng {B : Int} {s : Int → Int} (ho : SOK B s) (p q : Int) : 0 ≤ chg (wCo s) p q ∧ chg (wCo s) p q ≤ 72 := by
  have := wCo_rng ho p q
  unfold chg
  split <;> omega
def wHd (s : Int → Int) : Int := (hmF (fun k => chg (wCo s) (wWp s k) (wWp s (k + 1))) (wN s)).1
theorem hardest_ok {B : Int} {s : Int → Int} (hK : Kc σ l B s)  : Fq g zX5_hardest [.ref 0] σ l B s (iv (if wTot s = -1 then -1 else wHd s)) := by
  have ho := hK.ok
  have hc := hK.st
  have hp := p3_le ho.h7
  have hp0 := p3_pos (wH s)
  have hNn : 2 * 3 ^ wH s ≤ 4374 := by omega
  have hNe : ((2 * 3 ^ wH s : Nat) : Int) = 2 * ((3 ^ wH s : Nat) : Int) := by push_cast; rfl
  have hn40 := ho.n40
  obtain ⟨L, hL, hF⟩ := freshen_ok (g := g) (lev := 3) hK ⟨by decide, by decide⟩
  refine ⟨L, hL, Fn.of [some (.ref 0), none, none, none, none] rfl (by decide) (Nat.le_of_ble_eq_true rfl) rfl ?_⟩
  refine g_aload0 dX5_hardest_0 ?_
  refine g_iconst dX5_hardest_1 ?_
  refine f_cV1m (hF) rfl (by decide) rfl oY_X5_freshen oI_X5_freshen lk_X5_178 rfl dX5_hardest_2 (Nat.le_refl _) (Nat.le_refl _) rfl (okFb_of rfl) (fun σ2 l2 h2 => ?_)
  obtain ⟨hq, K1, hv, hL1⟩ := h2
  have c1 := K1.st
  obtain ⟨F1, F2⟩ := K1.ca.p1 (by omega)
  have hfc := K1.ca.fc
  have hrw : ∀ p, 0 ≤ p → p < 2 * ((3 ^ wH s : Nat) : Int) → 0 ≤ fgF ((3 ^ wH s : Nat) : Int) p ∧ fgF ((3 ^ wH s : Nat) : Int) p < ((3 ^ wH s : Nat) : Int) := fun p a0 a1 => fgF_rng a0 a1
  obtain ⟨hCh, G2⟩ := K1.ca.p2 (by omega)
  have hW := K1.ca.p3 (by omega)
  refine g_aload0 dX5_hardest_5 ?_
  refine f_getr (r := 40) rfl (by decide) rfl rfl fl_X5_70 dX5_hardest_6 ?_
  refine f_geti (J := 0) rfl (by decide) rfl rfl fl_X5_249 dX5_hardest_9 ?_
  rw [way_0 hW]
  have hTr := wTot_rng ho
  refine g_iconst dX5_hardest_12 ?_
  refine g_icmp_ne ⟨by omega, by omega⟩ ⟨by decide, by decide⟩ (tgt := 18) dX5_hardest_13 rfl (fun h13 => ?_) (fun h13 => ?_)
  · obtain ⟨f, hfd⟩ : ∃ f : Nat → Int, f = fun k => chg (wCo s) (wWp s k) (wWp s (k + 1)) := ⟨_, rfl⟩
    have hfe : ∀ k, f k = chg (wCo s) (wWp s k) (wWp s (k + 1)) := fun k => by rw [hfd]
    have hf : ∀ k, 0 ≤ f k ∧ f k ≤ 72 := fun k => by rw [hfe]; exact chg_rng ho _ _
    have loop : ∀ q, q ≤ wN s → ∀ (i be mo : Int) (u4 : Option Value), i = (q : Int) → be = (hmF f q).1 → mo = (hmF f q).2 → FW g zX5_hardest (pcL l - pcL L - (pcL l - pcL L)) (psL l - psL L - (psL l - psL L)) (fun o τ l' => o = .inl (some (iv (if wTot s = -1 then -1 else wHd s))) ∧ Qf σ τ ∧ Kc τ l' B s ∧ LE2 L l') 24 [some (.ref 0), some (iv be), some (iv mo), some (iv i), u4] [] σ2 l2 := by
      refine loopUp _ (fun q hq2 ih i be mo u4 hi hbe hmo => ?_)
      subst hi
      have hpr := hmF_rng (f := f) q (fun i _ => by have := hf i; omega)
      refine g_iload3 dX5_hardest_24 ?_
      refine g_aload0 dX5_hardest_25 ?_
      refine f_getr (r := 1) rfl (by decide) rfl rfl fl_X5_10 dX5_hardest_26 ?_
      refine f_geti (J := 9) rfl (by decide) rfl rfl fl_X5_101 dX5_hardest_29 ?_
      rw [c1.f9, ho.nI]
      refine g_icmp_ge ⟨by omega, by omega⟩ ⟨by omega, by omega⟩ (tgt := 66) dX5_hardest_32 rfl (fun h32 => ?_) (fun h32 => ?_)
      · refine g_iload1 dX5_hardest_66 ?_
        refine g_iretI rfl dX5_hardest_67 ?_
        have e9 : q = wN s := by omega
        subst e9
        refine Fq.ret ?_ hq K1 hL1
        rw [if_neg h13, hbe]
        unfold wHd
        rw [hfd]
      · refine g_aload0 dX5_hardest_35 ?_
        refine f_getr (r := 40) rfl (by decide) rfl rfl fl_X5_70 dX5_hardest_36 ?_
        refine g_aload0 dX5_hardest_39 ?_
        refine f_getr (r := 1) rfl (by decide) rfl rfl fl_X5_10 dX5_hardest_40 ?_
        refine g_iload3 dX5_hardest_43 ?_
        refine f_cV2w (priceTo_ok isWy40 ⟨by omega, by omega⟩ (fun z => way_cd ho hW h13 (by omega) (by rw [ho.nI]; omega)) (way_cd ho hW h13 (by omega) (by rw [ho.nI]; omega))) rfl (by decide) rfl oY_X4_priceTo oI_X4_priceTo lk_X5_255 rfl dX5_hardest_44 rfl (Or.inl rfl) ?_
        rw [c1.f5, c1.f6, c1.f7, way_pt ho hW h13 q (by omega), show chg (wCo s) (wWp s q) (wWp s (q + 1)) = f q from by rw [hfe]]
        have hfq := hf q
        refine g_istore4 dX5_hardest_47 rfl (by decide) ?_
        refine g_iload4 dX5_hardest_49 ?_
        refine g_iload2 dX5_hardest_51 ?_
        refine g_icmp_le ⟨by omega, by omega⟩ ⟨by omega, by omega⟩ (tgt := 60) dX5_hardest_52 rfl (fun h52 => ?_) (fun h52 => ?_)
        · refine g_iinc3 dX5_hardest_60 rfl (by decide) ?_
          refine g_goto (tgt := 24) dX5_hardest_63 rfl ?_
          first
            | exact ih (by omega) _ _ _ _ (by push_cast; omega) (by rw [hmF, if_pos (by omega)]) (by rw [hmF, if_pos (by omega)])
            | exact ih (by omega) _ _ _ _ (by push_cast; omega) (by rw [hmF, if_neg (by omega)]; exact hbe) (by rw [hmF, if_neg (by omega)]; exact hmo)
        · refine g_iload4 dX5_hardest_55 ?_
          refine g_istore2 dX5_hardest_57 rfl (by decide) ?_
          refine g_iload3 dX5_hardest_58 ?_
          refine g_istore1 dX5_hardest_59 rfl (by decide) ?_
          refine g_iinc3 dX5_hardest_60 rfl (by decide) ?_
          refine g_goto (tgt := 24) dX5_hardest_63 rfl ?_
          first
            | exact ih (by omega) _ _ _ _ (by push_cast; omega) (by rw [hmF, if_pos (by omega)]) (by rw [hmF, if_pos (by omega)])
            | exact ih (by omega) _ _ _ _ (by push_cast; omega) (by rw [hmF, if_neg (by omega)]; exact hbe) (by rw [hmF, if_neg (by omega)]; exact hmo)
    refine g_iconst dX5_hardest_18 ?_
    refine g_istore1 dX5_hardest_19 rfl (by decide) ?_
    refine g_iconst dX5_hardest_20 ?_
    refine g_istore2 dX5_hardest_21 rfl (by decide) ?_
    refine g_iconst dX5_hardest_22 ?_
    refine g_istore3 dX5_hardest_23 rfl (by decide) ?_
    exact loop 0 (Nat.zero_le _) _ _ _ _ rfl rfl rfl
  · refine g_iconst dX5_hardest_16 ?_
    refine g_iretI rfl dX5_hardest_17 ?_
    exact Fq.ret (by rw [if_pos h13]) hq K1 hL1
end C50
