/-! The class's actions on the play at hand -/
section C57
variable {g : gT} {σ : sT} {l : Nat → Nat}
theorem MF.up {τ : sT} {a : Nat} {j v : Int} (h : MF σ τ) (h0 : 1 ≤ a) (h1 : a ≤ 4) : MF σ (up τ a j v) := ⟨fun b b0 b1 => by rw [up_n (by omega)]; exact h.1 b b0 b1, fun i i3 i4 i5 => by rw [up_n (by omega)]; exact h.2 i i3 i4 i5⟩
/-- the state with another play at hand, its change paid -/
def tnS (s : Int → Int) (p : Int) : Int → Int := su (su s 11 (s 11 + wCo s (s 10) p)) 10 p
theorem tnS_10 {s : Int → Int} {p : Int} : tnS s p 10 = p := su_eq
theorem tnS_ok {B : Int} {s : Int → Int} {p : Int} (ho : SOK B s) (h : 0 ≤ p ∧ p < 2 * ((3 ^ wH s : Nat) : Int)) : SOK (B + 72) (tnS s p) := by
  have h1 := wCo_rng ho (s 10) p
  have h2 := ho.spent
  exact ((ho.more (C := B + 72) (by omega)).u11 (by omega)).u10 h
theorem tnS_ag {s : Int → Int} {p : Int} : Ag 3 (tnS s p) s := (Ag.u10 _ _).trans (Ag.u11 _ _)
theorem tn_ic {τ : sT} {l' : Nat → Nat} {B : Int} {s : Int → Int} {n : Nat} {P : Nat → Int → Int} {p : Int} (hI : Ic σ l B s n P) (hq : Qf σ τ) (K1 : Kc τ l' B s) (h : 0 ≤ p ∧ p < 2 * ((3 ^ wH s : Nat) : Int)) : Ic (up (up τ 1 11 (s 11 + wCo s (s 10) p)) 1 10 p) l' (B + 72) (tnS s p) n P :=
  (hI.q hq K1).set (fun a ha => by rw [up_n (by omega), up_n (by omega)]) (by omega) (tnS_ok K1.ok h) K1.st.u11.u10 tnS_ag
theorem turnTo_hi {B : Int} {s : Int → Int} (hK : Kc σ l B s) (h1 : 1 ≤ σ 0 15) {p : Int} (hx : R32 p) (h : 0 ≤ p ∧ p < 2 * ((3 ^ wH s : Nat) : Int)) : FO g zX5_turnTo [.ref 0, iv p] σ l (up (up σ 1 11 (s 11 + wCo s (s 10) p)) 1 10 p) := by
  have ho := hK.ok
  have hc := hK.st
  have hp3 := p3_le ho.h7
  have hpl := ho.play
  refine Fn.of [some (.ref 0), some (iv p)] rfl (by decide) (Nat.le_of_ble_eq_true rfl) rfl ?_
  refine g_aload0 dX5_turnTo_0 ?_
  refine f_getr (r := 1) rfl (by decide) rfl rfl fl_X5_10 dX5_turnTo_1 ?_
  refine g_dup rfl dX5_turnTo_4 ?_
  refine f_geti (J := 11) rfl (by decide) rfl rfl fl_X5_151 dX5_turnTo_5 ?_
  rw [hc.f11]
  refine g_aload0 dX5_turnTo_8 ?_
  refine g_aload0 dX5_turnTo_9 ?_
  refine f_getr (r := 1) rfl (by decide) rfl rfl fl_X5_10 dX5_turnTo_10 ?_
  refine f_geti (J := 10) rfl (by decide) rfl rfl fl_X5_148 dX5_turnTo_13 ?_
  rw [hc.f10]
  refine g_iload1 dX5_turnTo_16 ?_
  refine f_cV2w (changeCost_hi hK h1 ⟨by omega, by omega⟩ hx hpl h) rfl (by decide) rfl oY_X5_changeCost oI_X5_changeCost lk_X5_219 rfl dX5_turnTo_17 rfl (Or.inl rfl) ?_
  refine g_iadd dX5_turnTo_20 ?_
  refine f_puti (J := 11) rfl (by decide) rfl rfl fl_X5_151 rfl (fun _ _ _ h => by cases h; rfl) dX5_turnTo_21 ?_
  refine g_aload0 dX5_turnTo_24 ?_
  refine f_getr (r := 1) rfl (by decide) rfl rfl fl_X5_10 dX5_turnTo_25 ?_
  refine g_iload1 dX5_turnTo_28 ?_
  refine f_puti (J := 10) rfl (by decide) rfl rfl fl_X5_148 rfl (fun _ _ _ h => by cases h; rfl) dX5_turnTo_29 ?_
  refine g_return rfl dX5_turnTo_32 ?_
  exact FO.ret rfl
theorem cov_rng {c M p w : Int} (hc : 0 < c) (h0 : 0 ≤ p) (h1 : p < c * (3 * M)) (hw : 0 ≤ w ∧ w ≤ 2) : 0 ≤ p + (w - p / c % 3) * c ∧ p + (w - p / c % 3) * c < c * (3 * M) := by
  obtain ⟨q, hq⟩ : ∃ q, q = p / c := ⟨_, rfl⟩
  obtain ⟨r, hr⟩ : ∃ r, r = p % c := ⟨_, rfl⟩
  have e1 := Int.mul_ediv_add_emod p c
  rw [← hq, ← hr] at e1
  have r0 : 0 ≤ r := by rw [hr]; exact Int.emod_nonneg _ (by omega)
  have r1 : r < c := by rw [hr]; exact Int.emod_lt_of_pos _ hc
  have q0 : 0 ≤ q := by rw [hq]; exact Int.ediv_nonneg h0 (by omega)
  have q1 : q < 3 * M := by rw [hq]; exact Int.ediv_lt_of_lt_mul hc (by rw [Int.mul_comm]; exact h1)
  rw [← hq]
  obtain ⟨t, d, e2, d0, d1⟩ : ∃ t d : Int, q = 3 * t + d ∧ 0 ≤ d ∧ d ≤ 2 := ⟨q / 3, q % 3, by omega, by omega, by omega⟩
  have e3 : q % 3 = d := by omega
  rw [e3]
  have e4 : p + (w - d) * c = c * (3 * t + w) + r := by
    rw [← e1, e2]
    rw [Int.mul_add, Int.mul_add, Int.sub_mul, Int.mul_comm w c, Int.mul_comm d c]
    omega
  rw [e4]
  have h3 : 0 ≤ c * (3 * t + w) := Int.mul_nonneg (by omega) (by omega)
  have h4 : c * (3 * t + w + 1) ≤ c * (3 * M) := Int.mul_le_mul_of_nonneg_left (by omega) (by omega)
  rw [Int.mul_add, Int.mul_one] at h4
  omega
theorem p3_cut {h H : Nat} (hh : h < H) : ∃ M : Int, 2 * ((3 ^ H : Nat) : Int) = ((3 ^ h : Nat) : Int) * (3 * M) := by
  refine ⟨2 * ((3 ^ (H - h - 1) : Nat) : Int), ?_⟩
  have e : 3 ^ H = 3 ^ h * (3 * 3 ^ (H - h - 1)) := by rw [← Nat.pow_succ', ← Nat.pow_add]; congr 1; omega
  rw [e]
  push_cast
  rw [Int.mul_left_comm]
  congr 1
  rw [Int.mul_left_comm]
theorem covC_d {p : Int} {h : Nat} (hh : h < 8) : covC p (h : Int) = dgt p h := by
  unfold covC dgt
  rw [pw_nat hh, quoF_pos (p3_pos h)]
def cvP (s : Int → Int) (h : Nat) (w : Int) : Int := s 10 + (w - dgt (s 10) h) * ((3 ^ h : Nat) : Int)
theorem cvP_rng {B : Int} {s : Int → Int} (ho : SOK B s) {h : Nat} (hh : h < wH s) {w : Int} (hw : 0 ≤ w ∧ w ≤ 2) : 0 ≤ cvP s h w ∧ cvP s h w < 2 * ((3 ^ wH s : Nat) : Int) := by
  obtain ⟨M, hM⟩ := p3_cut hh
  have hpl := ho.play
  rw [hM] at hpl ⊢
  exact cov_rng (p3_pos h) hpl.1 hpl.2 hw
theorem rem_I {B : Int} {s : Int → Int} {n : Nat} {P : Nat → Int → Int} (hI : Ic σ l B s n P) : Ic (remS σ (σ 0 3).toNat 3) l B s (nP n) (pP n s P) := hI.rem ⟨by decide, by decide⟩ (fun _ _ => rfl) (rem_c hI) hI.K.ok (Int.le_refl _) (Ag.refl _ _)
theorem cover_ok {B : Int} {s : Int → Int} {n : Nat} {P : Nat → Int → Int} (hI : Ic σ l B s n P) {h : Nat} (hh : h < wH s) {w : Int} (hw : 0 ≤ w ∧ w ≤ 2) : Fma g zX5_cover [.ref 0, iv (h : Int), iv w] σ l (iv (cvP s h w)) (B + 72) (tnS s (cvP s h w)) (nP n) (pP n s P) := by
  have ho := hI.K.ok
  have hc := hI.K.st
  have hp3 := p3_le ho.h7
  have hrg := cvP_rng ho hh hw
  have h7 := ho.h7
  have hpl := ho.play
  have hR : 0 ≤ cvP s h w ∧ cvP s h w < 2 * ((3 ^ wH s : Nat) : Int) := hrg
  obtain ⟨L, hL, hF⟩ := freshen_ok (g := g) (lev := 1) hI.K ⟨by decide, by decide⟩
  refine ⟨L, hL, Fn.of [some (.ref 0), some (iv (h : Int)), some (iv w)] rfl (by decide) (Nat.le_of_ble_eq_true rfl) rfl ?_⟩
  refine g_aload0 dX5_cover_0 ?_
  refine g_iload1 dX5_cover_1 ?_
  refine f_cV1d (needHole_ok ho hc ⟨by omega, by omega⟩ ⟨by omega, by rw [ho.hI]; omega⟩) rfl (by decide) rfl oY_X5_needHole oI_X5_needHole lk_X5_157 rfl dX5_cover_2 rfl (Or.inl rfl) ?_
  refine g_aload0 dX5_cover_5 ?_
  refine g_iload2 dX5_cover_6 ?_
  refine g_iconst dX5_cover_7 ?_
  refine g_iconst dX5_cover_8 ?_
  refine f_cV3d (needRange_ok ⟨by omega, by omega⟩ ⟨by decide, by decide⟩ ⟨by decide, by decide⟩ hw) rfl (by decide) rfl oY_X5_needRange oI_X5_needRange lk_X5_110 rfl dX5_cover_9 rfl (Or.inl rfl) ?_
  refine g_aload0 dX5_cover_12 ?_
  refine g_iconst dX5_cover_13 ?_
  refine f_cV1m (hF) rfl (by decide) rfl oY_X5_freshen oI_X5_freshen lk_X5_178 rfl dX5_cover_14 (Nat.le_refl _) (Nat.le_refl _) rfl (okFb_of rfl) (fun σ14 l14 h14 => ?_)
  obtain ⟨hq, K1, hv, hL1⟩ := h14
  obtain ⟨ρ, hρ⟩ : ∃ ρ, ρ = remS σ14 (σ14 0 3).toNat 3 := ⟨_, rfl⟩
  have I1 := hI.q hq K1
  have c1 := K1.st
  have hr := rem_c (kp := 3) I1
  have hJ := rem_I I1
  have hMF : MF σ14 (remS σ14 (σ14 0 3).toNat 3) := MF.rem I1.i8.1 (fun _ _ => rfl)
  rw [← hρ] at hr hJ hMF
  have r15 : 1 ≤ ρ 0 15 := by rw [hρ]; unfold remS; rw [up_eq]; omega
  refine g_aload0 dX5_cover_17 ?_
  refine g_iconst dX5_cover_18 ?_
  refine f_cV1d (rem_s I1 ⟨by decide, by decide⟩) rfl (by decide) rfl oY_X5_remember oI_X5_remember lk_X5_280 rfl dX5_cover_19 rfl (Or.inl rfl) ?_
  rw [← hρ]
  refine g_aload0 dX5_cover_22 ?_
  refine g_aload0 dX5_cover_23 ?_
  refine f_getr (r := 1) rfl (by decide) rfl rfl fl_X5_10 dX5_cover_24 ?_
  refine f_geti (J := 10) rfl (by decide) rfl rfl fl_X5_148 dX5_cover_27 ?_
  rw [hr.f10]
  refine g_iload2 dX5_cover_30 ?_
  refine g_aload0 dX5_cover_31 ?_
  refine f_getr (r := 1) rfl (by decide) rfl rfl fl_X5_10 dX5_cover_32 ?_
  refine f_geti (J := 10) rfl (by decide) rfl rfl fl_X5_148 dX5_cover_35 ?_
  rw [hr.f10]
  refine g_iload1 dX5_cover_38 ?_
  refine f_cS2w (coverOf_ok ⟨by omega, by omega⟩ ⟨by omega, by omega⟩) oY_X5_coverOf oT_X5_coverOf lk_X5_171 rfl dX5_cover_39 rfl (Or.inl rfl) ?_
  rw [covC_d (by omega)]
  refine g_isub dX5_cover_42 ?_
  refine g_gets lf_X5_293 dX5_cover_43 ?_
  refine g_iload1 dX5_cover_46 ?_
  refine f_cS2w (pwI (by omega) (by omega)) oY_X5_at oT_X5_at lk_X5_164 rfl dX5_cover_47 rfl (Or.inl rfl) ?_
  rw [pw_nat (by omega)]
  refine g_imul dX5_cover_50 ?_
  refine g_iadd dX5_cover_51 ?_
  rw [show s 10 + (w - dgt (s 10) h) * ((3 ^ h : Nat) : Int) = cvP s h w from rfl]
  refine f_cV1d (turnTo_hi hJ.K r15 ⟨by omega, by omega⟩ hR) rfl (by decide) rfl oY_X5_turnTo oI_X5_turnTo lk_X5_296 rfl dX5_cover_52 rfl (Or.inl rfl) ?_
  refine g_aload0 dX5_cover_55 ?_
  refine f_getr (r := 1) rfl (by decide) rfl rfl fl_X5_10 dX5_cover_56 ?_
  refine f_geti (J := 10) rfl (by decide) rfl rfl fl_X5_148 dX5_cover_59 ?_
  rw [up_eq]
  refine g_iretI rfl dX5_cover_62 ?_
  exact fn_ret ⟨rfl, ((((MF.ofQ hq).trans hMF).up (by decide) (by decide)).up (by decide) (by decide)), tn_ic hJ (Qf.refl _) hJ.K hR, hL1⟩
theorem cover_bad1 {B : Int} {s : Int → Int} (ho : SOK B s) (hc : CSt σ 1 s) {h w : Int} (hx : R32 h) (hb : ¬ (0 ≤ h ∧ h < s 3)) : Ft g zX5_cover [.ref 0, iv h, iv w] σ l 1 := by
  refine Fn.of [some (.ref 0), some (iv h), some (iv w)] rfl (by decide) (Nat.le_of_ble_eq_true rfl) rfl ?_
  refine g_aload0 dX5_cover_0 ?_
  refine g_iload1 dX5_cover_1 ?_
  refine f_cV1t (needHole_bad ho hc hx hb) rfl (by decide) rfl oY_X5_needHole oI_X5_needHole lk_X5_157 rfl dX5_cover_2 (by omega) (by omega) rfl (Or.inl rfl) rfl ?_
  exact Ft.ret
theorem cover_bad2 {B : Int} {s : Int → Int} (ho : SOK B s) (hc : CSt σ 1 s) {h w : Int} (hx : R32 h) (hw : R32 w) (h0 : 0 ≤ h ∧ h < s 3) (hb : ¬ (0 ≤ w ∧ w ≤ 2)) : Ft g zX5_cover [.ref 0, iv h, iv w] σ l 0 := by
  refine Fn.of [some (.ref 0), some (iv h), some (iv w)] rfl (by decide) (Nat.le_of_ble_eq_true rfl) rfl ?_
  refine g_aload0 dX5_cover_0 ?_
  refine g_iload1 dX5_cover_1 ?_
  refine f_cV1d (needHole_ok ho hc hx h0) rfl (by decide) rfl oY_X5_needHole oI_X5_needHole lk_X5_157 rfl dX5_cover_2 rfl (Or.inl rfl) ?_
  refine g_aload0 dX5_cover_5 ?_
  refine g_iload2 dX5_cover_6 ?_
  refine g_iconst dX5_cover_7 ?_
  refine g_iconst dX5_cover_8 ?_
  refine f_cV3t (needRange_bad hw ⟨by decide, by decide⟩ ⟨by decide, by decide⟩ hb) rfl (by decide) rfl oY_X5_needRange oI_X5_needRange lk_X5_110 rfl dX5_cover_9 (by omega) (by omega) rfl (Or.inl rfl) rfl ?_
  exact Ft.ret
def blS (s : Int → Int) : Int := if s 10 < ((3 ^ wH s : Nat) : Int) then s 10 else s 10 - ((3 ^ wH s : Nat) : Int)
theorem blS_rng {B : Int} {s : Int → Int} (ho : SOK B s) : 0 ≤ blS s ∧ blS s < ((3 ^ wH s : Nat) : Int) := by
  have := ho.play
  unfold blS
  split <;> omega
theorem blow0_ok {B : Int} {s : Int → Int} {n : Nat} {P : Nat → Int → Int} (hI : Ic σ l B s n P)  : Fma g zX5_blow [.ref 0, iv 0] σ l (iv (blS s)) (B + 72) (tnS s (blS s)) (nP n) (pP n s P) := by
  have ho := hI.K.ok
  have hc := hI.K.st
  have hp3 := p3_le ho.h7
  have hbr := blS_rng ho
  have h7 := ho.h7
  have hpl := ho.play
  have hR : 0 ≤ blS s ∧ blS s < 2 * ((3 ^ wH s : Nat) : Int) := ⟨by omega, by omega⟩
  obtain ⟨L, hL, hF⟩ := freshen_ok (g := g) (lev := 1) hI.K ⟨by decide, by decide⟩
  refine ⟨L, hL, Fn.of [some (.ref 0), some (iv 0), none, none] rfl (by decide) (Nat.le_of_ble_eq_true rfl) rfl ?_⟩
  refine g_aload0 dX5_blow_0 ?_
  refine g_iconst dX5_blow_1 ?_
  refine f_cV1m (hF) rfl (by decide) rfl oY_X5_freshen oI_X5_freshen lk_X5_178 rfl dX5_blow_2 (Nat.le_refl _) (Nat.le_refl _) rfl (okFb_of rfl) (fun σ2 l2 h2 => ?_)
  obtain ⟨hq, K1, hv, hL1⟩ := h2
  obtain ⟨ρ, hρ⟩ : ∃ ρ, ρ = remS σ2 (σ2 0 3).toNat 3 := ⟨_, rfl⟩
  have I1 := hI.q hq K1
  have c1 := K1.st
  have hr := rem_c (kp := 3) I1
  have hJ := rem_I I1
  have hMF : MF σ2 (remS σ2 (σ2 0 3).toNat 3) := MF.rem I1.i8.1 (fun _ _ => rfl)
  rw [← hρ] at hr hJ hMF
  have r15 : 1 ≤ ρ 0 15 := by rw [hρ]; unfold remS; rw [up_eq]; omega
  refine g_aload0 dX5_blow_5 ?_
  refine g_iconst dX5_blow_6 ?_
  refine f_cV1d (rem_s I1 ⟨by decide, by decide⟩) rfl (by decide) rfl oY_X5_remember oI_X5_remember lk_X5_280 rfl dX5_blow_7 rfl (Or.inl rfl) ?_
  rw [← hρ]
  refine g_aload0 dX5_blow_10 ?_
  refine f_getr (r := 1) rfl (by decide) rfl rfl fl_X5_10 dX5_blow_11 ?_
  refine f_cV0w (fingeringCount_ok isSt1 (by rw [hr.H ho]; exact ⟨by omega, by omega⟩)) rfl (by decide) rfl oY_X3_fingeringCount oI_X3_fingeringCount lk_X5_299 rfl dX5_blow_14 rfl (Or.inl rfl) ?_
  rw [hr.H ho, pw_nat (by omega)]
  refine g_istore2 dX5_blow_17 rfl (by decide) ?_
  refine g_aload0 dX5_blow_18 ?_
  refine f_getr (r := 1) rfl (by decide) rfl rfl fl_X5_10 dX5_blow_19 ?_
  refine f_geti (J := 10) rfl (by decide) rfl rfl fl_X5_148 dX5_blow_22 ?_
  rw [hr.f10]
  refine g_iload2 dX5_blow_25 ?_
  refine g_icmp_lt ⟨by omega, by omega⟩ ⟨by omega, by omega⟩ (tgt := 41) dX5_blow_26 rfl (fun h26 => ?_) (fun h26 => ?_)
  · refine g_aload0 dX5_blow_41 ?_
    refine f_getr (r := 1) rfl (by decide) rfl rfl fl_X5_10 dX5_blow_42 ?_
    refine f_geti (J := 10) rfl (by decide) rfl rfl fl_X5_148 dX5_blow_45 ?_
    rw [hr.f10]
    first
      | rw [show s 10 - ((3 ^ wH s : Nat) : Int) = blS s from (if_neg (by omega)).symm]
      | rw [show (iv (s 10)) = iv (blS s) from by rw [show blS s = s 10 from if_pos h26]]
    refine g_istore3 dX5_blow_48 rfl (by decide) ?_
    refine g_aload0 dX5_blow_49 ?_
    refine g_iload1 dX5_blow_50 ?_
    refine g_if_eq ⟨by decide, by decide⟩ (tgt := 60) dX5_blow_51 rfl (fun h51 => ?_) (fun h51 => absurd h51 (by decide))
    refine g_iload3 dX5_blow_60 ?_
    refine f_cV1d (turnTo_hi hJ.K r15 ⟨by omega, by omega⟩ hR) rfl (by decide) rfl oY_X5_turnTo oI_X5_turnTo lk_X5_296 rfl dX5_blow_61 rfl (Or.inl rfl) ?_
    refine g_aload0 dX5_blow_64 ?_
    refine f_getr (r := 1) rfl (by decide) rfl rfl fl_X5_10 dX5_blow_65 ?_
    refine f_geti (J := 10) rfl (by decide) rfl rfl fl_X5_148 dX5_blow_68 ?_
    rw [up_eq]
    refine g_iretI rfl dX5_blow_71 ?_
    exact fn_ret ⟨rfl, ((((MF.ofQ hq).trans hMF).up (by decide) (by decide)).up (by decide) (by decide)), tn_ic hJ (Qf.refl _) hJ.K hR, hL1⟩
  · refine g_aload0 dX5_blow_29 ?_
    refine f_getr (r := 1) rfl (by decide) rfl rfl fl_X5_10 dX5_blow_30 ?_
    refine f_geti (J := 10) rfl (by decide) rfl rfl fl_X5_148 dX5_blow_33 ?_
    rw [hr.f10]
    refine g_iload2 dX5_blow_36 ?_
    refine g_isub dX5_blow_37 ?_
    refine g_goto (tgt := 48) dX5_blow_38 rfl ?_
    first
      | rw [show s 10 - ((3 ^ wH s : Nat) : Int) = blS s from (if_neg (by omega)).symm]
      | rw [show (iv (s 10)) = iv (blS s) from by rw [show blS s = s 10 from if_pos h26]]
    refine g_istore3 dX5_blow_48 rfl (by decide) ?_
    refine g_aload0 dX5_blow_49 ?_
    refine g_iload1 dX5_blow_50 ?_
    refine g_if_eq ⟨by decide, by decide⟩ (tgt := 60) dX5_blow_51 rfl (fun h51 => ?_) (fun h51 => absurd h51 (by decide))
    refine g_iload3 dX5_blow_60 ?_
    refine f_cV1d (turnTo_hi hJ.K r15 ⟨by omega, by omega⟩ hR) rfl (by decide) rfl oY_X5_turnTo oI_X5_turnTo lk_X5_296 rfl dX5_blow_61 rfl (Or.inl rfl) ?_
    refine g_aload0 dX5_blow_64 ?_
    refine f_getr (r := 1) rfl (by decide) rfl rfl fl_X5_10 dX5_blow_65 ?_
    refine f_geti (J := 10) rfl (by decide) rfl rfl fl_X5_148 dX5_blow_68 ?_
    rw [up_eq]
    refine g_iretI rfl dX5_blow_71 ?_
    exact fn_ret ⟨rfl, ((((MF.ofQ hq).trans hMF).up (by decide) (by decide)).up (by decide) (by decide)), tn_ic hJ (Qf.refl _) hJ.K hR, hL1⟩
theorem blow1_ok {B : Int} {s : Int → Int} {n : Nat} {P : Nat → Int → Int} (hI : Ic σ l B s n P)  : Fma g zX5_blow [.ref 0, iv 1] σ l (iv (blS s + ((3 ^ wH s : Nat) : Int))) (B + 72) (tnS s (blS s + ((3 ^ wH s : Nat) : Int))) (nP n) (pP n s P) := by
  have ho := hI.K.ok
  have hc := hI.K.st
  have hp3 := p3_le ho.h7
  have hbr := blS_rng ho
  have h7 := ho.h7
  have hpl := ho.play
  have hR : 0 ≤ blS s + ((3 ^ wH s : Nat) : Int) ∧ blS s + ((3 ^ wH s : Nat) : Int) < 2 * ((3 ^ wH s : Nat) : Int) := ⟨by omega, by omega⟩
  obtain ⟨L, hL, hF⟩ := freshen_ok (g := g) (lev := 1) hI.K ⟨by decide, by decide⟩
  refine ⟨L, hL, Fn.of [some (.ref 0), some (iv 1), none, none] rfl (by decide) (Nat.le_of_ble_eq_true rfl) rfl ?_⟩
  refine g_aload0 dX5_blow_0 ?_
  refine g_iconst dX5_blow_1 ?_
  refine f_cV1m (hF) rfl (by decide) rfl oY_X5_freshen oI_X5_freshen lk_X5_178 rfl dX5_blow_2 (Nat.le_refl _) (Nat.le_refl _) rfl (okFb_of rfl) (fun σ2 l2 h2 => ?_)
  obtain ⟨hq, K1, hv, hL1⟩ := h2
  obtain ⟨ρ, hρ⟩ : ∃ ρ, ρ = remS σ2 (σ2 0 3).toNat 3 := ⟨_, rfl⟩
  have I1 := hI.q hq K1
  have c1 := K1.st
  have hr := rem_c (kp := 3) I1
  have hJ := rem_I I1
  have hMF : MF σ2 (remS σ2 (σ2 0 3).toNat 3) := MF.rem I1.i8.1 (fun _ _ => rfl)
  rw [← hρ] at hr hJ hMF
  have r15 : 1 ≤ ρ 0 15 := by rw [hρ]; unfold remS; rw [up_eq]; omega
  refine g_aload0 dX5_blow_5 ?_
  refine g_iconst dX5_blow_6 ?_
  refine f_cV1d (rem_s I1 ⟨by decide, by decide⟩) rfl (by decide) rfl oY_X5_remember oI_X5_remember lk_X5_280 rfl dX5_blow_7 rfl (Or.inl rfl) ?_
  rw [← hρ]
  refine g_aload0 dX5_blow_10 ?_
  refine f_getr (r := 1) rfl (by decide) rfl rfl fl_X5_10 dX5_blow_11 ?_
  refine f_cV0w (fingeringCount_ok isSt1 (by rw [hr.H ho]; exact ⟨by omega, by omega⟩)) rfl (by decide) rfl oY_X3_fingeringCount oI_X3_fingeringCount lk_X5_299 rfl dX5_blow_14 rfl (Or.inl rfl) ?_
  rw [hr.H ho, pw_nat (by omega)]
  refine g_istore2 dX5_blow_17 rfl (by decide) ?_
  refine g_aload0 dX5_blow_18 ?_
  refine f_getr (r := 1) rfl (by decide) rfl rfl fl_X5_10 dX5_blow_19 ?_
  refine f_geti (J := 10) rfl (by decide) rfl rfl fl_X5_148 dX5_blow_22 ?_
  rw [hr.f10]
  refine g_iload2 dX5_blow_25 ?_
  refine g_icmp_lt ⟨by omega, by omega⟩ ⟨by omega, by omega⟩ (tgt := 41) dX5_blow_26 rfl (fun h26 => ?_) (fun h26 => ?_)
  · refine g_aload0 dX5_blow_41 ?_
    refine f_getr (r := 1) rfl (by decide) rfl rfl fl_X5_10 dX5_blow_42 ?_
    refine f_geti (J := 10) rfl (by decide) rfl rfl fl_X5_148 dX5_blow_45 ?_
    rw [hr.f10]
    first
      | rw [show s 10 - ((3 ^ wH s : Nat) : Int) = blS s from (if_neg (by omega)).symm]
      | rw [show (iv (s 10)) = iv (blS s) from by rw [show blS s = s 10 from if_pos h26]]
    refine g_istore3 dX5_blow_48 rfl (by decide) ?_
    refine g_aload0 dX5_blow_49 ?_
    refine g_iload1 dX5_blow_50 ?_
    refine g_if_eq ⟨by decide, by decide⟩ (tgt := 60) dX5_blow_51 rfl (fun h51 => absurd h51 (by decide)) (fun h51 => ?_)
    refine g_iload3 dX5_blow_54 ?_
    refine g_iload2 dX5_blow_55 ?_
    refine g_iadd dX5_blow_56 ?_
    refine g_goto (tgt := 61) dX5_blow_57 rfl ?_
    refine f_cV1d (turnTo_hi hJ.K r15 ⟨by omega, by omega⟩ hR) rfl (by decide) rfl oY_X5_turnTo oI_X5_turnTo lk_X5_296 rfl dX5_blow_61 rfl (Or.inl rfl) ?_
    refine g_aload0 dX5_blow_64 ?_
    refine f_getr (r := 1) rfl (by decide) rfl rfl fl_X5_10 dX5_blow_65 ?_
    refine f_geti (J := 10) rfl (by decide) rfl rfl fl_X5_148 dX5_blow_68 ?_
    rw [up_eq]
    refine g_iretI rfl dX5_blow_71 ?_
    exact fn_ret ⟨rfl, ((((MF.ofQ hq).trans hMF).up (by decide) (by decide)).up (by decide) (by decide)), tn_ic hJ (Qf.refl _) hJ.K hR, hL1⟩
  · refine g_aload0 dX5_blow_29 ?_
    refine f_getr (r := 1) rfl (by decide) rfl rfl fl_X5_10 dX5_blow_30 ?_
    refine f_geti (J := 10) rfl (by decide) rfl rfl fl_X5_148 dX5_blow_33 ?_
    rw [hr.f10]
    refine g_iload2 dX5_blow_36 ?_
    refine g_isub dX5_blow_37 ?_
    refine g_goto (tgt := 48) dX5_blow_38 rfl ?_
    first
      | rw [show s 10 - ((3 ^ wH s : Nat) : Int) = blS s from (if_neg (by omega)).symm]
      | rw [show (iv (s 10)) = iv (blS s) from by rw [show blS s = s 10 from if_pos h26]]
    refine g_istore3 dX5_blow_48 rfl (by decide) ?_
    refine g_aload0 dX5_blow_49 ?_
    refine g_iload1 dX5_blow_50 ?_
    refine g_if_eq ⟨by decide, by decide⟩ (tgt := 60) dX5_blow_51 rfl (fun h51 => absurd h51 (by decide)) (fun h51 => ?_)
    refine g_iload3 dX5_blow_54 ?_
    refine g_iload2 dX5_blow_55 ?_
    refine g_iadd dX5_blow_56 ?_
    refine g_goto (tgt := 61) dX5_blow_57 rfl ?_
    refine f_cV1d (turnTo_hi hJ.K r15 ⟨by omega, by omega⟩ hR) rfl (by decide) rfl oY_X5_turnTo oI_X5_turnTo lk_X5_296 rfl dX5_blow_61 rfl (Or.inl rfl) ?_
    refine g_aload0 dX5_blow_64 ?_
    refine f_getr (r := 1) rfl (by decide) rfl rfl fl_X5_10 dX5_blow_65 ?_
    refine f_geti (J := 10) rfl (by decide) rfl rfl fl_X5_148 dX5_blow_68 ?_
    rw [up_eq]
    refine g_iretI rfl dX5_blow_71 ?_
    exact fn_ret ⟨rfl, ((((MF.ofQ hq).trans hMF).up (by decide) (by decide)).up (by decide) (by decide)), tn_ic hJ (Qf.refl _) hJ.K hR, hL1⟩
theorem pk_ne (f : Nat → Int) (n : Nat) (h : ∀ i, i < n → f i < 2000000) (hn : 0 < n) : (pk f n).1 ≠ -1 := by
  have key : ∀ m, m ≤ n → 0 < m → (pk f m).1 ≠ -1 := by
    intro m
    induction m with
    | zero => intro _ h0; omega
    | succ m ih =>
      intro hm _
      unfold pk
      split
      · dsimp only; omega
      · next hc =>
        by_cases e : m = 0
        · subst e
          have := h 0 (by omega)
          exact absurd this hc
        · exact ih (by omega) (by omega)
  exact key n (Nat.le_refl _) hn
def stK (s : Int → Int) : Nat := (s 12).toNat
/-- the play of a step -/
def stP (s : Int → Int) : Int := if wTu s (stK s) = -1 then s 10 else pkA (fun q => wAh s (stK s) q + wCo s (s 10) q) (wEs s (stK s))
def stA (s : Int → Int) : Int := if s 12 + 1 < s 9 then s 12 + 1 else 0
def stS (s : Int → Int) : Int → Int := su (tnS s (stP s)) 12 (stA s)
theorem su_id (s : Int → Int) (k : Int) : su s k (s k) = s := by
  funext j
  unfold su
  split
  · next h => rw [h]
  · rfl
theorem tnS_id {s : Int → Int} : tnS s (s 10) = s := by
  unfold tnS
  rw [show wCo s (s 10) (s 10) = 0 from coD_self _ _ _ _ _, Int.add_zero, su_id, su_id]
theorem stS_r {s : Int → Int} (h : wTu s (stK s) = -1) : stS s = su s 12 (stA s) := by
  unfold stS stP
  rw [if_pos h, tnS_id]
theorem stA_rng {B : Int} {s : Int → Int} (ho : SOK B s) : 0 ≤ stA s ∧ (stA s = 0 ∨ stA s < s 9) := by
  have := ho.place
  unfold stA
  split <;> omega
theorem stK_ok {B : Int} {s : Int → Int} (ho : SOK B s) : s 12 = (stK s : Int) ∧ stK s ≤ wN s ∧ (s 9 ≠ 0 → stK s < wN s) := by
  have h1 := ho.place
  have h2 := ho.nI
  have h3 := ho.notes
  unfold stK
  refine ⟨by omega, by omega, fun h => by omega⟩
theorem step_no0 {B : Int} {s : Int → Int} (hK : Kc σ l B s) (h9 : s 9 = 0) : Fq g zX5_step [.ref 0] σ l B s (iv (-3)) := by
  have ho := hK.ok
  have hn := ho.notes
  obtain ⟨L, hL, hF⟩ := freshen_ok (g := g) (lev := 2) hK ⟨by decide, by decide⟩
  refine ⟨L, hL, Fn.of [some (.ref 0), none, none] rfl (by decide) (Nat.le_of_ble_eq_true rfl) rfl ?_⟩
  refine g_aload0 dX5_step_0 ?_
  refine g_iconst dX5_step_1 ?_
  refine f_cV1m (hF) rfl (by decide) rfl oY_X5_freshen oI_X5_freshen lk_X5_178 rfl dX5_step_2 (Nat.le_refl _) (Nat.le_refl _) rfl (okFb_of rfl) (fun σ2 l2 h2 => ?_)
  obtain ⟨hq, K1, hv, hL1⟩ := h2
  have c1 := K1.st
  obtain ⟨hCh, G2⟩ := K1.ca.p2 (by omega)
  refine g_aload0 dX5_step_5 ?_
  refine f_getr (r := 1) rfl (by decide) rfl rfl fl_X5_10 dX5_step_6 ?_
  refine f_geti (J := 9) rfl (by decide) rfl rfl fl_X5_101 dX5_step_9 ?_
  rw [c1.f9]
  refine g_if_eq ⟨by omega, by omega⟩ (tgt := 38) dX5_step_12 rfl (fun h12 => ?_) (fun h12 => absurd h12 (fun z => z h9))
  refine g_bipush dX5_step_38 (by decide) ?_
  refine g_iretI rfl dX5_step_40 ?_
  exact Fq.ret rfl hq K1 hL1
theorem step_no1 {B : Int} {s : Int → Int} (hK : Kc σ l B s) (h9 : s 9 ≠ 0) (hl : wLk s (wTe s) 0 (stK s) ≠ -1) : Fq g zX5_step [.ref 0] σ l B s (iv (-3)) := by
  have ho := hK.ok
  have hn := ho.notes
  have hn40 := ho.n40
  obtain ⟨k1, k2, k3⟩ := stK_ok ho
  have hw := wLk_rng (s := s) (TE := wTe s) (b := 0) k2
  obtain ⟨L, hL, hF⟩ := freshen_ok (g := g) (lev := 2) hK ⟨by decide, by decide⟩
  refine ⟨L, hL, Fn.of [some (.ref 0), none, none] rfl (by decide) (Nat.le_of_ble_eq_true rfl) rfl ?_⟩
  refine g_aload0 dX5_step_0 ?_
  refine g_iconst dX5_step_1 ?_
  refine f_cV1m (hF) rfl (by decide) rfl oY_X5_freshen oI_X5_freshen lk_X5_178 rfl dX5_step_2 (Nat.le_refl _) (Nat.le_refl _) rfl (okFb_of rfl) (fun σ2 l2 h2 => ?_)
  obtain ⟨hq, K1, hv, hL1⟩ := h2
  have c1 := K1.st
  obtain ⟨hCh, G2⟩ := K1.ca.p2 (by omega)
  refine g_aload0 dX5_step_5 ?_
  refine f_getr (r := 1) rfl (by decide) rfl rfl fl_X5_10 dX5_step_6 ?_
  refine f_geti (J := 9) rfl (by decide) rfl rfl fl_X5_101 dX5_step_9 ?_
  rw [c1.f9]
  refine g_if_eq ⟨by omega, by omega⟩ (tgt := 38) dX5_step_12 rfl (fun h12 => absurd h12 h9) (fun h12 => ?_)
  refine g_aload0 dX5_step_15 ?_
  refine f_getr (r := 24) rfl (by decide) rfl rfl fl_X5_60 dX5_step_16 ?_
  refine g_aload0 dX5_step_19 ?_
  refine f_getr (r := 1) rfl (by decide) rfl rfl fl_X5_10 dX5_step_20 ?_
  refine g_aload0 dX5_step_23 ?_
  refine f_getr (r := 1) rfl (by decide) rfl rfl fl_X5_10 dX5_step_24 ?_
  refine f_geti (J := 12) rfl (by decide) rfl rfl fl_X5_154 dX5_step_27 ?_
  rw [c1.f12, k1]
  refine g_iconst dX5_step_30 ?_
  refine f_cV3w (lackingFrom_s (TE := wTe s) (pl := stK s) ho c1 isCh24 hCh k2 ⟨by decide, by decide⟩) rfl (by decide) rfl oY_X0_lackingFrom oI_X0_lackingFrom lk_X5_245 rfl dX5_step_31 rfl (Or.inl rfl) ?_
  refine g_iconst dX5_step_34 ?_
  refine g_icmp_eq ⟨by omega, by omega⟩ ⟨by decide, by decide⟩ (tgt := 41) dX5_step_35 rfl (fun h35 => absurd h35 hl) (fun h35 => ?_)
  refine g_bipush dX5_step_38 (by decide) ?_
  refine g_iretI rfl dX5_step_40 ?_
  exact Fq.ret rfl hq K1 hL1
theorem step_rest {B : Int} {s : Int → Int} {n : Nat} {P : Nat → Int → Int} (hI : Ic σ l B s n P) (h9 : s 9 ≠ 0) (hl : wLk s (wTe s) 0 (stK s) = -1) (hr0 : wTu s (stK s) = -1) : Fma g zX5_step [.ref 0] σ l (iv (stP s)) (B + 72) (stS s) (nP n) (pP n s P) := by
  have ho := hI.K.ok
  have hc := hI.K.st
  have hn := ho.notes
  have hn40 := ho.n40
  have hpl := ho.place
  have hplay := ho.play
  have hp3 := p3_le ho.h7
  obtain ⟨k1, k2, k3⟩ := stK_ok ho
  have k4 := k3 h9
  have hst := stA_rng ho
  have ht := ho.tune (stK s) (by omega) (by rw [ho.nI]; omega)
  have hw := wLk_rng (s := s) (TE := wTe s) (b := 0) k2
  obtain ⟨L, hL, hF⟩ := freshen_ok (g := g) (lev := 2) hI.K ⟨by decide, by decide⟩
  refine ⟨L, hL, Fn.of [some (.ref 0), none, none] rfl (by decide) (Nat.le_of_ble_eq_true rfl) rfl ?_⟩
  refine g_aload0 dX5_step_0 ?_
  refine g_iconst dX5_step_1 ?_
  refine f_cV1m (hF) rfl (by decide) rfl oY_X5_freshen oI_X5_freshen lk_X5_178 rfl dX5_step_2 (Nat.le_refl _) (Nat.le_refl _) rfl (okFb_of rfl) (fun σ2 l2 h2 => ?_)
  obtain ⟨hq, K1, hv, hL1⟩ := h2
  obtain ⟨ρ, hρ⟩ : ∃ ρ, ρ = remS σ2 (σ2 0 3).toNat 3 := ⟨_, rfl⟩
  have I1 := hI.q hq K1
  have c1 := K1.st
  have hr := rem_c (kp := 3) I1
  have hJ := rem_I I1
  have hMF : MF σ2 (remS σ2 (σ2 0 3).toNat 3) := MF.rem I1.i8.1 (fun _ _ => rfl)
  rw [← hρ] at hr hJ hMF
  obtain ⟨hCh, G2⟩ := K1.ca.p2 (by omega)
  refine g_aload0 dX5_step_5 ?_
  refine f_getr (r := 1) rfl (by decide) rfl rfl fl_X5_10 dX5_step_6 ?_
  refine f_geti (J := 9) rfl (by decide) rfl rfl fl_X5_101 dX5_step_9 ?_
  rw [c1.f9]
  refine g_if_eq ⟨by omega, by omega⟩ (tgt := 38) dX5_step_12 rfl (fun h12 => absurd h12 h9) (fun h12 => ?_)
  refine g_aload0 dX5_step_15 ?_
  refine f_getr (r := 24) rfl (by decide) rfl rfl fl_X5_60 dX5_step_16 ?_
  refine g_aload0 dX5_step_19 ?_
  refine f_getr (r := 1) rfl (by decide) rfl rfl fl_X5_10 dX5_step_20 ?_
  refine g_aload0 dX5_step_23 ?_
  refine f_getr (r := 1) rfl (by decide) rfl rfl fl_X5_10 dX5_step_24 ?_
  refine f_geti (J := 12) rfl (by decide) rfl rfl fl_X5_154 dX5_step_27 ?_
  rw [c1.f12, k1]
  refine g_iconst dX5_step_30 ?_
  refine f_cV3w (lackingFrom_s (TE := wTe s) (pl := stK s) ho c1 isCh24 hCh k2 ⟨by decide, by decide⟩) rfl (by decide) rfl oY_X0_lackingFrom oI_X0_lackingFrom lk_X5_245 rfl dX5_step_31 rfl (Or.inl rfl) ?_
  refine g_iconst dX5_step_34 ?_
  refine g_icmp_eq ⟨by omega, by omega⟩ ⟨by decide, by decide⟩ (tgt := 41) dX5_step_35 rfl (fun h35 => ?_) (fun h35 => absurd h35 (fun z => z hl))
  refine g_aload0 dX5_step_41 ?_
  refine g_iconst dX5_step_42 ?_
  refine f_cV1d (rem_s I1 ⟨by decide, by decide⟩) rfl (by decide) rfl oY_X5_remember oI_X5_remember lk_X5_280 rfl dX5_step_43 rfl (Or.inl rfl) ?_
  rw [← hρ]
  refine g_aload0 dX5_step_46 ?_
  refine f_getr (r := 1) rfl (by decide) rfl rfl fl_X5_10 dX5_step_47 ?_
  refine f_getr (r := 4) rfl (by decide) rfl rfl fl_X5_242 dX5_step_50 ?_
  refine g_aload0 dX5_step_53 ?_
  refine f_getr (r := 1) rfl (by decide) rfl rfl fl_X5_10 dX5_step_54 ?_
  refine f_geti (J := 12) rfl (by decide) rfl rfl fl_X5_154 dX5_step_57 ?_
  rw [hr.f12, k1]
  refine f_cS2w (atI rfl (by decide) (by omega) (by show (stK s : Int) < (40 : Nat); omega)) oY_X5_at oT_X5_at lk_X5_164 rfl dX5_step_60 rfl (Or.inl rfl) ?_
  rw [hr.tu _ (by omega) (by rw [ho.nI]; omega)]
  refine g_istore1 dX5_step_63 rfl (by decide) ?_
  refine g_iload1 dX5_step_64 ?_
  refine g_iconst dX5_step_65 ?_
  refine g_icmp_eq ⟨by omega, by omega⟩ ⟨by decide, by decide⟩ (tgt := 127) dX5_step_66 rfl (fun h66 => ?_) (fun h66 => absurd h66 (fun z => z hr0))
  refine g_aload0 dX5_step_127 ?_
  refine f_getr (r := 1) rfl (by decide) rfl rfl fl_X5_10 dX5_step_128 ?_
  refine g_aload0 dX5_step_131 ?_
  refine f_getr (r := 1) rfl (by decide) rfl rfl fl_X5_10 dX5_step_132 ?_
  refine f_geti (J := 12) rfl (by decide) rfl rfl fl_X5_154 dX5_step_135 ?_
  rw [hr.f12]
  refine g_iconst dX5_step_138 ?_
  refine g_iadd dX5_step_139 ?_
  refine g_aload0 dX5_step_140 ?_
  refine f_getr (r := 1) rfl (by decide) rfl rfl fl_X5_10 dX5_step_141 ?_
  refine f_geti (J := 9) rfl (by decide) rfl rfl fl_X5_101 dX5_step_144 ?_
  rw [hr.f9]
  refine g_icmp_ge ⟨by omega, by omega⟩ ⟨by omega, by omega⟩ (tgt := 162) dX5_step_147 rfl (fun h147 => ?_) (fun h147 => ?_)
  · have eA : stA s = 0 := if_neg (by omega)
    refine g_iconst dX5_step_162 ?_
    refine f_puti (J := 12) rfl (by decide) rfl rfl fl_X5_154 rfl (fun _ _ _ h => by cases h; rfl) dX5_step_163 ?_
    refine g_aload0 dX5_step_166 ?_
    refine f_getr (r := 1) rfl (by decide) rfl rfl fl_X5_10 dX5_step_167 ?_
    refine f_geti (J := 10) rfl (by decide) rfl rfl fl_X5_148 dX5_step_170 ?_
    refine g_iretI rfl dX5_step_173 ?_
    refine fn_ret ⟨by rw [up_ne (by decide), hr.f10]; unfold stP; rw [if_pos hr0], ((MF.ofQ hq).trans hMF).up (by decide) (by decide), ?_, hL1⟩
    rw [stS_r hr0, eA]
    rw [eA] at hst
    exact hJ.set (fun a ha => by rw [up_n (by omega)]) (by omega) ((ho.more (by omega)).u12 hst) hr.u12 (Ag.u12 _ _)
  · have eA : stA s = s 12 + 1 := if_pos h147
    refine g_aload0 dX5_step_150 ?_
    refine f_getr (r := 1) rfl (by decide) rfl rfl fl_X5_10 dX5_step_151 ?_
    refine f_geti (J := 12) rfl (by decide) rfl rfl fl_X5_154 dX5_step_154 ?_
    rw [hr.f12]
    refine g_iconst dX5_step_157 ?_
    refine g_iadd dX5_step_158 ?_
    refine g_goto (tgt := 163) dX5_step_159 rfl ?_
    refine f_puti (J := 12) rfl (by decide) rfl rfl fl_X5_154 rfl (fun _ _ _ h => by cases h; rfl) dX5_step_163 ?_
    refine g_aload0 dX5_step_166 ?_
    refine f_getr (r := 1) rfl (by decide) rfl rfl fl_X5_10 dX5_step_167 ?_
    refine f_geti (J := 10) rfl (by decide) rfl rfl fl_X5_148 dX5_step_170 ?_
    refine g_iretI rfl dX5_step_173 ?_
    refine fn_ret ⟨by rw [up_ne (by decide), hr.f10]; unfold stP; rw [if_pos hr0], ((MF.ofQ hq).trans hMF).up (by decide) (by decide), ?_, hL1⟩
    rw [stS_r hr0, eA]
    rw [eA] at hst
    exact hJ.set (fun a ha => by rw [up_n (by omega)]) (by omega) ((ho.more (by omega)).u12 hst) hr.u12 (Ag.u12 _ _)
theorem step_note {B : Int} {s : Int → Int} {n : Nat} {P : Nat → Int → Int} (hI : Ic σ l B s n P) (h9 : s 9 ≠ 0) (hl : wLk s (wTe s) 0 (stK s) = -1) (hr0 : wTu s (stK s) ≠ -1) (hne : (wEt s (wTu s (stK s))).length ≠ 0) : Fma g zX5_step [.ref 0] σ l (iv (stP s)) (B + 72) (stS s) (nP n) (pP n s P) := by
  have ho := hI.K.ok
  have hc := hI.K.st
  have hn := ho.notes
  have hn40 := ho.n40
  have hpl := ho.place
  have hplay := ho.play
  have hp3 := p3_le ho.h7
  obtain ⟨k1, k2, k3⟩ := stK_ok ho
  have k4 := k3 h9
  have hst := stA_rng ho
  have ht := ho.tune (stK s) (by omega) (by rw [ho.nI]; omega)
  have hlv := hI.K.ca.lv
  obtain ⟨G1, _, _⟩ := freshen_okX (g := g) (lev := 2) hI.K ⟨by decide, by decide⟩
  have hF := (freshen_okX (g := g) (lev := 2) hI.K ⟨by decide, by decide⟩).2.2
  have hw := wLk_rng (s := s) (TE := wTe s) (b := 0) k2
  obtain ⟨f, hf⟩ : ∃ f, f = σ 0 15 := ⟨_, rfl⟩
  rw [← hf] at G1 hF
  obtain ⟨L1, hL1⟩ : ∃ L1, L1 = flL 2 f s l := ⟨_, rfl⟩
  rw [← hL1] at G1 hF
  have e1 := flL_e (l := l) (lev := 2) (f := f) ho
  have hA1 : 2 ≤ ln L1 44 ∧ ln L1 44 ≤ 349920 := by
    rw [hL1]
    unfold flL fl3
    rw [if_neg (by omega), e1.2 44 (by decide), e1.1 44 (by decide)]
    exact hI.K.ca.a1
  have G2 := flL_Gr (l := L1) (lev := 3) (f := max f 2) ho hA1
  have g1 : pcL L1 ≤ pcL l := G1.1
  have g2 : psL L1 ≤ psL l := G1.2
  have g3 : pcL (flL 3 (max f 2) s L1) ≤ pcL L1 := G2.1
  have g4 : psL (flL 3 (max f 2) s L1) ≤ psL L1 := G2.2
  refine ⟨flL 3 (max f 2) s L1, G1.tr0 G2, Fn.of [some (.ref 0), none, none] rfl (by decide) (Nat.le_of_ble_eq_true rfl) rfl ?_⟩
  refine g_aload0 dX5_step_0 ?_
  refine g_iconst dX5_step_1 ?_
  refine f_cV1m (hF) rfl (by decide) rfl oY_X5_freshen oI_X5_freshen lk_X5_178 rfl dX5_step_2 (bud1 g3) (bud1 g4) rfl (okFb_of rfl) (fun σ2 l2 h2 => ?_)
  obtain ⟨hq, K1, hv1, hLL⟩ := h2
  obtain ⟨ρ, hρ⟩ : ∃ ρ, ρ = remS σ2 (σ2 0 3).toNat 3 := ⟨_, rfl⟩
  have I1 := hI.q hq K1
  have c1 := K1.st
  have hr := rem_c (kp := 3) I1
  have hJ := rem_I I1
  have hMF : MF σ2 (remS σ2 (σ2 0 3).toNat 3) := MF.rem I1.i8.1 (fun _ _ => rfl)
  rw [← hρ] at hr hJ hMF
  obtain ⟨hCh0, G20⟩ := K1.ca.p2 (by omega)
  have r15 : ρ 0 15 = max f 2 := by rw [hρ]; unfold remS; rw [up_eq, hv1]; omega
  have hX := (freshen_okX (g := g) (lev := 3) hJ.K ⟨by decide, by decide⟩).2.2
  rw [r15] at hX
  have hLE3 := flL_LE (lev := 3) (f := max f 2) ho hA1.2 hLL
  have hc3 := pcL_eq hLE3
  have hc4 := pcL_eq hLL
  refine g_aload0 dX5_step_5 ?_
  refine f_getr (r := 1) rfl (by decide) rfl rfl fl_X5_10 dX5_step_6 ?_
  refine f_geti (J := 9) rfl (by decide) rfl rfl fl_X5_101 dX5_step_9 ?_
  rw [c1.f9]
  refine g_if_eq ⟨by omega, by omega⟩ (tgt := 38) dX5_step_12 rfl (fun h12 => absurd h12 h9) (fun h12 => ?_)
  refine g_aload0 dX5_step_15 ?_
  refine f_getr (r := 24) rfl (by decide) rfl rfl fl_X5_60 dX5_step_16 ?_
  refine g_aload0 dX5_step_19 ?_
  refine f_getr (r := 1) rfl (by decide) rfl rfl fl_X5_10 dX5_step_20 ?_
  refine g_aload0 dX5_step_23 ?_
  refine f_getr (r := 1) rfl (by decide) rfl rfl fl_X5_10 dX5_step_24 ?_
  refine f_geti (J := 12) rfl (by decide) rfl rfl fl_X5_154 dX5_step_27 ?_
  rw [c1.f12, k1]
  refine g_iconst dX5_step_30 ?_
  refine f_cV3w (lackingFrom_s (TE := wTe s) (pl := stK s) ho c1 isCh24 hCh0 k2 ⟨by decide, by decide⟩) rfl (by decide) rfl oY_X0_lackingFrom oI_X0_lackingFrom lk_X5_245 rfl dX5_step_31 rfl (Or.inl rfl) ?_
  refine g_iconst dX5_step_34 ?_
  refine g_icmp_eq ⟨by omega, by omega⟩ ⟨by decide, by decide⟩ (tgt := 41) dX5_step_35 rfl (fun h35 => ?_) (fun h35 => absurd h35 (fun z => z hl))
  refine g_aload0 dX5_step_41 ?_
  refine g_iconst dX5_step_42 ?_
  refine f_cV1d (rem_s I1 ⟨by decide, by decide⟩) rfl (by decide) rfl oY_X5_remember oI_X5_remember lk_X5_280 rfl dX5_step_43 rfl (Or.inl rfl) ?_
  rw [← hρ]
  refine g_aload0 dX5_step_46 ?_
  refine f_getr (r := 1) rfl (by decide) rfl rfl fl_X5_10 dX5_step_47 ?_
  refine f_getr (r := 4) rfl (by decide) rfl rfl fl_X5_242 dX5_step_50 ?_
  refine g_aload0 dX5_step_53 ?_
  refine f_getr (r := 1) rfl (by decide) rfl rfl fl_X5_10 dX5_step_54 ?_
  refine f_geti (J := 12) rfl (by decide) rfl rfl fl_X5_154 dX5_step_57 ?_
  rw [hr.f12, k1]
  refine f_cS2w (atI rfl (by decide) (by omega) (by show (stK s : Int) < (40 : Nat); omega)) oY_X5_at oT_X5_at lk_X5_164 rfl dX5_step_60 rfl (Or.inl rfl) ?_
  rw [hr.tu _ (by omega) (by rw [ho.nI]; omega)]
  refine g_istore1 dX5_step_63 rfl (by decide) ?_
  refine g_iload1 dX5_step_64 ?_
  refine g_iconst dX5_step_65 ?_
  refine g_icmp_eq ⟨by omega, by omega⟩ ⟨by decide, by decide⟩ (tgt := 127) dX5_step_66 rfl (fun h66 => absurd h66 hr0) (fun h66 => ?_)
  refine g_aload0 dX5_step_69 ?_
  refine g_iconst dX5_step_70 ?_
  refine f_cV1m (hX) rfl (by decide) rfl oY_X5_freshen oI_X5_freshen lk_X5_178 rfl dX5_step_71 (by rw [hc3.1, hc4.1]; exact bud2 g3 g1) (by rw [hc3.2, hc4.2]; exact bud2 g4 g2) rfl (okFb_of rfl) (fun σ71 l71 h71 => ?_)
  obtain ⟨hq2, K2, hv2, hL3⟩ := h71
  have hCh := (K2.ca.p2 (by omega)).1
  have G4 := (K2.ca.p2 (by omega)).2
  have hW := K2.ca.p3 (by omega)
  have c2 := K2.st
  obtain ⟨F1, F2⟩ := K2.ca.p1 (by omega)
  have hfc := K2.ca.fc
  obtain ⟨fs, hat, hct, hlen, hfs0, hfs1, hqA⟩ := tone_w (l := l71) ho hCh (wTu s (stK s))
  have eE : wEs s (stK s) = wEt s (wTu s (stK s)) := by
    show EP (wTe s) (2 * 3 ^ wH s) (wTu s (stK s) + 0) = EP (wTe s) (2 * 3 ^ wH s) (wTu s (stK s))
    rw [Int.add_zero]
  have hwl : ∀ i q : Nat, (wEt s (wTu s (stK s)))[i]? = some q → q < 2 * 3 ^ wH s := fun i q h => wEt_lt h
  have hrows := hW.2.2.1 (stK s) k4
  have hlast : wRw s (wTe s) 0 (wN s) ≤ (ln l71 (40 + 4) : Int) := hW.2.2.2.1
  have hah := hW.2.2.2.2 (stK s) k4 hr0
  have eE2 : wE (wTE s (s 4) (s 5)) (wTu s) (wH s) 0 (stK s) = wEt s (wTu s (stK s)) := eE
  rw [eE2] at hah
  generalize hLE : wEt s (wTu s (stK s)) = LE at *
  have hmo : wRw s (wTe s) 0 (stK s) + LE.length ≤ wRw s (wTe s) 0 (wN s) := by
    have m1 := frI_mono (c := fun j => if wTu s j = -1 then 0 else ((EP (wTe s) (2 * 3 ^ wH s) (wTu s j + 0)).length : Int)) (fun t => by split <;> omega) (show stK s + 1 ≤ wN s from k4)
    rw [frI_s] at m1
    rw [if_neg hr0] at m1
    have e3 : EP (wTe s) (2 * 3 ^ wH s) (wTu s (stK s) + 0) = LE := eE
    rw [e3] at m1
    exact m1
  have hbd := wRw_bd (s := s) (TE := wTe s) (b := 0) ho.h7 (stK s)
  have hah2 : ∀ i : Nat, i < LE.length → σ71 (40 + 4) (wRw s (wTe s) 0 (stK s) + i) = wAh s (stK s) (LE.getD i 0 : Nat) ∧ 0 ≤ wAh s (stK s) (LE.getD i 0 : Nat) ∧ wAh s (stK s) (LE.getD i 0 : Nat) ≤ 1000000 := fun i hi => by
    have a1 := hah i _ (getD_some hi)
    exact ⟨a1, wA_rng (fun p q => (wCo_rng ho p q).1) _ _ _⟩
  have hpc := pk_congr LE.length (f := pkf (σ71 1 5) (σ71 1 6) (σ71 1 7) (σ71 (40 + 4)) (σ71 (40 + 3) (stK s)) (cdP ((3 ^ wH s : Nat) : Int) (s 10) : Int) (fun i => cdP ((3 ^ wH s : Nat) : Int) (LE.getD i 0 : Nat))) (g := fun i => (fun q : Int => wAh s (stK s) q + wCo s (s 10) q) (LE.getD i 0 : Nat)) (fun i hi => by
    unfold pkf
    rw [show σ71 (40 + 3) (stK s) = wRw s (wTe s) 0 (stK s) from hrows, (hah2 i hi).1]
    rw [if_neg (by omega), Int.toNat_natCast, c2.f5, c2.f6, c2.f7, prC_coD ho.h7 hplay.1 hplay.2 (by omega) (by have := hwl i _ (getD_some hi); omega)])
  have hpn := pk_ne (fun i => (fun q : Int => wAh s (stK s) q + wCo s (s 10) q) (LE.getD i 0 : Nat)) LE.length (fun i hi => by
    have a1 := (hah2 i hi).2
    have a2 := wCo_rng ho (s 10) (LE.getD i 0 : Nat)
    dsimp only
    omega) (by omega)
  have hpr := pk_rng (fun i => (fun q : Int => wAh s (stK s) q + wCo s (s 10) q) (LE.getD i 0 : Nat)) LE.length (fun i hi => by
    have a1 := (hah2 i hi).2
    have a2 := wCo_rng ho (s 10) (LE.getD i 0 : Nat)
    dsimp only
    omega)
  have hsP : stP s = (LE.getD (pk (fun i => (fun q : Int => wAh s (stK s) q + wCo s (s 10) q) (LE.getD i 0 : Nat)) LE.length).1.toNat 0 : Nat) := by
    unfold stP
    rw [if_neg hr0, eE]
    unfold pkA
    rw [if_neg hpn]
  generalize hKd : (pk (fun i => (fun q : Int => wAh s (stK s) q + wCo s (s 10) q) (LE.getD i 0 : Nat)) LE.length).1 = Kd at *
  obtain ⟨i, hi⟩ : ∃ i : Nat, Kd = (i : Int) := ⟨Kd.toNat, by omega⟩
  subst hi
  rw [Int.toNat_natCast] at hsP
  have hil : i < LE.length := by omega
  have hq4 := hqA i _ (getD_some hil)
  have hq5 := hwl i _ (getD_some hil)
  rw [← hsP] at hq4
  refine g_aload0 dX5_step_74 ?_
  refine f_getr (r := 40) rfl (by decide) rfl rfl fl_X5_70 dX5_step_75 ?_
  refine g_aload0 dX5_step_78 ?_
  refine f_getr (r := 1) rfl (by decide) rfl rfl fl_X5_10 dX5_step_79 ?_
  refine g_aload0 dX5_step_82 ?_
  refine f_getr (r := 24) rfl (by decide) rfl rfl fl_X5_60 dX5_step_83 ?_
  refine g_aload0 dX5_step_86 ?_
  refine f_getr (r := 1) rfl (by decide) rfl rfl fl_X5_10 dX5_step_87 ?_
  refine f_geti (J := 12) rfl (by decide) rfl rfl fl_X5_154 dX5_step_90 ?_
  rw [c2.f12, k1]
  refine g_iload1 dX5_step_93 ?_
  refine g_aload0 dX5_step_94 ?_
  refine f_getr (r := 17) rfl (by decide) rfl rfl fl_X5_53 dX5_step_95 ?_
  refine g_aload0 dX5_step_98 ?_
  refine f_getr (r := 1) rfl (by decide) rfl rfl fl_X5_10 dX5_step_99 ?_
  refine f_geti (J := 10) rfl (by decide) rfl rfl fl_X5_148 dX5_step_102 ?_
  rw [c2.f10]
  refine f_cV1w (codeOf_ok (c := cdN (fgF ((3 ^ wH s : Nat) : Int) (s 10))) (by rw [F1.1, hfc.1]; omega) (by rw [F1.1]; exact hplay) (by rw [F1.1]; have a9 := fgF_rng hplay.1 hplay.2; exact (K2.ca.fg _ a9.1 (by omega)).1)) rfl (by decide) rfl oY_X1_codeOf oI_X1_codeOf lk_X5_222 rfl dX5_step_105 rfl (Or.inl rfl) ?_
  rw [F1.1, show (cdN (fgF ((3 ^ wH s : Nat) : Int) (s 10)) ||| (if s 10 < ((3 ^ wH s : Nat) : Int) then 0 else 16384) : Nat) = cdP ((3 ^ wH s : Nat) : Int) (s 10) from rfl]
  refine f_cV5w (pick_ok (cnt := LE.length) (fs := fs) (cd := fun i => cdP ((3 ^ wH s : Nat) : Int) (LE.getD i 0 : Nat)) isWy40 isCh24 (by omega) ⟨by omega, by omega⟩ hct hlen hat ⟨hfs0, hfs1⟩ (by have := cdP_lt ((3 ^ wH s : Nat) : Int) (s 10); exact ⟨by omega, by omega⟩) (by rw [show σ71 (40 + 3) (stK s) = wRw s (wTe s) 0 (stK s) from hrows]; omega) (by rw [c2.f5]; have := ho.move; omega) (by rw [c2.f6]; have := ho.half; omega) (by rw [c2.f7]; exact ho.breath) (fun i hi => ⟨by rw [K2.ca.ce.2.2]; have := (hqA i _ (getD_some hi)).1; omega, (hqA i _ (getD_some hi)).2.2, cdP_lt _ _⟩) (fun i hi => by rw [show σ71 (40 + 3) (stK s) = wRw s (wTe s) 0 (stK s) from hrows]; have a1 := hah2 i hi; exact ⟨by omega, by rw [a1.1]; exact a1.2.1, by rw [a1.1]; exact a1.2.2⟩)) rfl (by decide) rfl oY_X4_pick oI_X4_pick lk_X5_302 rfl dX5_step_108 rfl (Or.inl rfl) ?_
  rw [hpc, hKd, if_neg (by omega)]
  refine g_istore2 dX5_step_111 rfl (by decide) ?_
  refine g_aload0 dX5_step_112 ?_
  refine g_aload0 dX5_step_113 ?_
  refine f_getr (r := 24) rfl (by decide) rfl rfl fl_X5_60 dX5_step_114 ?_
  refine f_getr (r := 30) rfl (by decide) rfl rfl fl_X5_204 dX5_step_117 ?_
  refine g_iload2 dX5_step_120 ?_
  refine f_cS2w (atI rfl (by decide) (by omega) (by rw [K2.ca.ce.2.1]; have := hq4.1; omega)) oY_X5_at oT_X5_at lk_X5_164 rfl dX5_step_121 rfl (Or.inl rfl) ?_
  rw [show σ71 (24 + 6) (fs + (i : Int)) = stP s from hq4.2.1]
  refine f_cV1d (turnTo_hi K2 (by omega) ⟨by omega, by omega⟩ ⟨by omega, by omega⟩) rfl (by decide) rfl oY_X5_turnTo oI_X5_turnTo lk_X5_296 rfl dX5_step_124 rfl (Or.inl rfl) ?_
  refine g_aload0 dX5_step_127 ?_
  refine f_getr (r := 1) rfl (by decide) rfl rfl fl_X5_10 dX5_step_128 ?_
  refine g_aload0 dX5_step_131 ?_
  refine f_getr (r := 1) rfl (by decide) rfl rfl fl_X5_10 dX5_step_132 ?_
  refine f_geti (J := 12) rfl (by decide) rfl rfl fl_X5_154 dX5_step_135 ?_
  rw [up_ne (by omega), up_ne (by omega), c2.f12]
  refine g_iconst dX5_step_138 ?_
  refine g_iadd dX5_step_139 ?_
  refine g_aload0 dX5_step_140 ?_
  refine f_getr (r := 1) rfl (by decide) rfl rfl fl_X5_10 dX5_step_141 ?_
  refine f_geti (J := 9) rfl (by decide) rfl rfl fl_X5_101 dX5_step_144 ?_
  rw [up_ne (by omega), up_ne (by omega), c2.f9]
  refine g_icmp_ge ⟨by omega, by omega⟩ ⟨by omega, by omega⟩ (tgt := 162) dX5_step_147 rfl (fun h147 => ?_) (fun h147 => ?_)
  · have eA : stA s = 0 := if_neg (by omega)
    refine g_iconst dX5_step_162 ?_
    refine f_puti (J := 12) rfl (by decide) rfl rfl fl_X5_154 rfl (fun _ _ _ h => by cases h; rfl) dX5_step_163 ?_
    refine g_aload0 dX5_step_166 ?_
    refine f_getr (r := 1) rfl (by decide) rfl rfl fl_X5_10 dX5_step_167 ?_
    refine f_geti (J := 10) rfl (by decide) rfl rfl fl_X5_148 dX5_step_170 ?_
    refine g_iretI rfl dX5_step_173 ?_
    refine fn_ret ⟨by rw [up_ne (by decide), up_eq], (((((MF.ofQ hq).trans hMF).trans (MF.ofQ hq2)).up (by decide) (by decide)).up (by decide) (by decide)).up (by decide) (by decide), ?_, hLE3.trans hL3⟩
    have hpR : 0 ≤ stP s ∧ stP s < 2 * ((3 ^ wH s : Nat) : Int) := ⟨by omega, by omega⟩
    have hT := tn_ic hJ hq2 K2 hpR
    unfold stS
    rw [eA]
    rw [eA] at hst
    exact hT.set (fun a ha => by rw [up_n (by omega)]) (Int.le_refl _) ((tnS_ok ho hpR).u12 (by rw [show tnS s (stP s) 9 = s 9 from rfl]; exact hst)) hT.K.st.u12 (Ag.u12 _ _)
  · have eA : stA s = s 12 + 1 := if_pos h147
    refine g_aload0 dX5_step_150 ?_
    refine f_getr (r := 1) rfl (by decide) rfl rfl fl_X5_10 dX5_step_151 ?_
    refine f_geti (J := 12) rfl (by decide) rfl rfl fl_X5_154 dX5_step_154 ?_
    rw [up_ne (by omega), up_ne (by omega), c2.f12]
    refine g_iconst dX5_step_157 ?_
    refine g_iadd dX5_step_158 ?_
    refine g_goto (tgt := 163) dX5_step_159 rfl ?_
    refine f_puti (J := 12) rfl (by decide) rfl rfl fl_X5_154 rfl (fun _ _ _ h => by cases h; rfl) dX5_step_163 ?_
    refine g_aload0 dX5_step_166 ?_
    refine f_getr (r := 1) rfl (by decide) rfl rfl fl_X5_10 dX5_step_167 ?_
    refine f_geti (J := 10) rfl (by decide) rfl rfl fl_X5_148 dX5_step_170 ?_
    refine g_iretI rfl dX5_step_173 ?_
    refine fn_ret ⟨by rw [up_ne (by decide), up_eq], (((((MF.ofQ hq).trans hMF).trans (MF.ofQ hq2)).up (by decide) (by decide)).up (by decide) (by decide)).up (by decide) (by decide), ?_, hLE3.trans hL3⟩
    have hpR : 0 ≤ stP s ∧ stP s < 2 * ((3 ^ wH s : Nat) : Int) := ⟨by omega, by omega⟩
    have hT := tn_ic hJ hq2 K2 hpR
    unfold stS
    rw [eA]
    rw [eA] at hst
    exact hT.set (fun a ha => by rw [up_n (by omega)]) (Int.le_refl _) ((tnS_ok ho hpR).u12 (by rw [show tnS s (stP s) 9 = s 9 from rfl]; exact hst)) hT.K.st.u12 (Ag.u12 _ _)
end C57
