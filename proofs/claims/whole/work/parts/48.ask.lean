/-! HoleWhistle's questions, the plain ones -/
section C48
variable {g : gT} {σ : sT} {l : Nat → Nat}
/-- a question: its value; the state stays, what is reckoned may come anew -/
def Fq (g : gT) (y : yT) (as : List Value) (σ : sT) (l : Nat → Nat) (B : Int) (s : Int → Int) (V : Value) : Prop := ∃ L, Gr l L 0 0 ∧ Fn g y (pcL l - pcL L) (psL l - psL L) as σ l (fun o τ l' => o = .inl (some V) ∧ Qf σ τ ∧ Kc τ l' B s ∧ LE2 L l')
theorem Fq.same {y : yT} {as : List Value} {B : Int} {s : Int → Int} {V : Value} (hK : Kc σ l B s) (h : Fw g y as σ l V) : Fq g y as σ l B s V := by
  refine ⟨l, Gr.refl l, ?_⟩
  rw [Nat.sub_self, Nat.sub_self]
  exact Fn.mono h (fun o τ l' ⟨a, b, c⟩ => by subst b; subst c; exact ⟨a, Qf.refl _, hK, LE2.refl _⟩)
theorem Fq.ret {τ : sT} {l' L : Nat → Nat} {B : Int} {s : Int → Int} {V W : Value} (h : W = V) (hq : Qf σ τ) (hK : Kc τ l' B s) (hL : LE2 L l') : fΦ (fun o τ l' => o = .inl (some V) ∧ Qf σ τ ∧ Kc τ l' B s ∧ LE2 L l') (.inl (some W)) (mem τ l') := ⟨τ, l', rfl, by rw [h], hq, hK, hL⟩
/-- what a play sounds, in cents -/
def wCn (s : Int → Int) (p : Int) : Int := wCen s (fgF ((3 ^ wH s : Nat) : Int) p) + (if p < ((3 ^ wH s : Nat) : Int) then 0 else 1200)
theorem wCn_rng {B : Int} {s : Int → Int} (ho : SOK B s) (p : Int) : 0 ≤ wCn s p ∧ wCn s p ≤ 6000 := by
  have := wCen_rng ho (fgF ((3 ^ wH s : Nat) : Int) p)
  unfold wCn
  split <;> omega
def offC (c : Int) : Int := if c % 100 ≤ 50 then c % 100 else c % 100 - 100
theorem sounding_ok {B : Int} {s : Int → Int} (hK : Kc σ l B s) {p : Int} (hx : R32 p) (h : 0 ≤ p ∧ p < 2 * ((3 ^ wH s : Nat) : Int)) : Fq g zX5_sounding [.ref 0, iv p] σ l B s (iv (wLen s (fgF ((3 ^ wH s : Nat) : Int) p))) := by
  have ho := hK.ok
  have hc := hK.st
  have hp := p3_le ho.h7
  have hp0 := p3_pos (wH s)
  have hNn : 2 * 3 ^ wH s ≤ 4374 := by omega
  have hNe : ((2 * 3 ^ wH s : Nat) : Int) = 2 * ((3 ^ wH s : Nat) : Int) := by push_cast; rfl
  obtain ⟨L, hL, hF⟩ := freshen_ok (g := g) (lev := 1) hK ⟨by decide, by decide⟩
  refine ⟨L, hL, Fn.of [some (.ref 0), some (iv p)] rfl (by decide) (Nat.le_of_ble_eq_true rfl) rfl ?_⟩
  refine g_aload0 dX5_sounding_0 ?_
  refine g_iload1 dX5_sounding_1 ?_
  refine f_cV1d (needPlay_ok ho hc hx h) rfl (by decide) rfl oY_X5_needPlay oI_X5_needPlay lk_X5_175 rfl dX5_sounding_2 rfl (Or.inl rfl) ?_
  refine g_aload0 dX5_sounding_5 ?_
  refine g_iconst dX5_sounding_6 ?_
  refine f_cV1m (hF) rfl (by decide) rfl oY_X5_freshen oI_X5_freshen lk_X5_178 rfl dX5_sounding_7 (Nat.le_refl _) (Nat.le_refl _) rfl (okFb_of rfl) (fun σ7 l7 h7 => ?_)
  obtain ⟨hq, K1, hv, hL1⟩ := h7
  have c1 := K1.st
  obtain ⟨F1, F2⟩ := K1.ca.p1 (by omega)
  have hfc := K1.ca.fc
  have hrw : ∀ p, 0 ≤ p → p < 2 * ((3 ^ wH s : Nat) : Int) → 0 ≤ fgF ((3 ^ wH s : Nat) : Int) p ∧ fgF ((3 ^ wH s : Nat) : Int) p < ((3 ^ wH s : Nat) : Int) := fun p a0 a1 => fgF_rng a0 a1
  have h0 := hrw p h.1 h.2
  refine g_aload0 dX5_sounding_10 ?_
  refine f_getr (r := 17) rfl (by decide) rfl rfl fl_X5_53 dX5_sounding_11 ?_
  refine f_getr (r := 21) rfl (by decide) rfl rfl fl_X5_181 dX5_sounding_14 ?_
  refine g_aload0 dX5_sounding_17 ?_
  refine f_getr (r := 17) rfl (by decide) rfl rfl fl_X5_53 dX5_sounding_18 ?_
  refine g_iload1 dX5_sounding_21 ?_
  refine f_cV1w (fingeringOf_ok hx (by rw [F1.1]; exact ⟨by omega, by omega⟩)) rfl (by decide) rfl oY_X1_fingeringOf oI_X1_fingeringOf lk_X5_184 rfl dX5_sounding_22 rfl (Or.inl rfl) ?_
  rw [F1.1]
  refine f_cS2w (atI rfl (by decide) h0.1 (by rw [hfc.2.2.2.1]; omega)) oY_X5_at oT_X5_at lk_X5_164 rfl dX5_sounding_25 rfl (Or.inl rfl) ?_
  rw [(F1.2 _ h0.1 h0.2).1]
  refine g_iretI rfl dX5_sounding_28 ?_
  exact Fq.ret rfl hq K1 hL1
theorem sounding_bad {B : Int} {s : Int → Int} (ho : SOK B s) (hc : CSt σ 1 s) {p : Int} (hx : R32 p) (h : ¬ (0 ≤ p ∧ p < 2 * ((3 ^ wH s : Nat) : Int))) : Ft g zX5_sounding [.ref 0, iv p] σ l 1 := by
  refine Fn.of [some (.ref 0), some (iv p)] rfl (by decide) (Nat.le_of_ble_eq_true rfl) rfl ?_
  refine g_aload0 dX5_sounding_0 ?_
  refine g_iload1 dX5_sounding_1 ?_
  refine f_cV1t (needPlay_bad ho hc hx h) rfl (by decide) rfl oY_X5_needPlay oI_X5_needPlay lk_X5_175 rfl dX5_sounding_2 (by omega) (by omega) rfl (Or.inl rfl) rfl ?_
  exact Ft.ret
theorem halves_ok {B : Int} {s : Int → Int} (hK : Kc σ l B s) {p : Int} (hx : R32 p) (h : 0 ≤ p ∧ p < 2 * ((3 ^ wH s : Nat) : Int)) : Fq g zX5_halves [.ref 0, iv p] σ l B s (iv (hvF (fgF ((3 ^ wH s : Nat) : Int) p))) := by
  have ho := hK.ok
  have hc := hK.st
  have hp := p3_le ho.h7
  have hp0 := p3_pos (wH s)
  have hNn : 2 * 3 ^ wH s ≤ 4374 := by omega
  have hNe : ((2 * 3 ^ wH s : Nat) : Int) = 2 * ((3 ^ wH s : Nat) : Int) := by push_cast; rfl
  obtain ⟨L, hL, hF⟩ := freshen_ok (g := g) (lev := 1) hK ⟨by decide, by decide⟩
  refine ⟨L, hL, Fn.of [some (.ref 0), some (iv p)] rfl (by decide) (Nat.le_of_ble_eq_true rfl) rfl ?_⟩
  refine g_aload0 dX5_halves_0 ?_
  refine g_iload1 dX5_halves_1 ?_
  refine f_cV1d (needPlay_ok ho hc hx h) rfl (by decide) rfl oY_X5_needPlay oI_X5_needPlay lk_X5_175 rfl dX5_halves_2 rfl (Or.inl rfl) ?_
  refine g_aload0 dX5_halves_5 ?_
  refine g_iconst dX5_halves_6 ?_
  refine f_cV1m (hF) rfl (by decide) rfl oY_X5_freshen oI_X5_freshen lk_X5_178 rfl dX5_halves_7 (Nat.le_refl _) (Nat.le_refl _) rfl (okFb_of rfl) (fun σ7 l7 h7 => ?_)
  obtain ⟨hq, K1, hv, hL1⟩ := h7
  have c1 := K1.st
  obtain ⟨F1, F2⟩ := K1.ca.p1 (by omega)
  have hfc := K1.ca.fc
  have hrw : ∀ p, 0 ≤ p → p < 2 * ((3 ^ wH s : Nat) : Int) → 0 ≤ fgF ((3 ^ wH s : Nat) : Int) p ∧ fgF ((3 ^ wH s : Nat) : Int) p < ((3 ^ wH s : Nat) : Int) := fun p a0 a1 => fgF_rng a0 a1
  have h0 := hrw p h.1 h.2
  refine g_aload0 dX5_halves_10 ?_
  refine f_getr (r := 17) rfl (by decide) rfl rfl fl_X5_53 dX5_halves_11 ?_
  refine f_getr (r := 19) rfl (by decide) rfl rfl fl_X5_194 dX5_halves_14 ?_
  refine g_aload0 dX5_halves_17 ?_
  refine f_getr (r := 17) rfl (by decide) rfl rfl fl_X5_53 dX5_halves_18 ?_
  refine g_iload1 dX5_halves_21 ?_
  refine f_cV1w (fingeringOf_ok hx (by rw [F1.1]; exact ⟨by omega, by omega⟩)) rfl (by decide) rfl oY_X1_fingeringOf oI_X1_fingeringOf lk_X5_184 rfl dX5_halves_22 rfl (Or.inl rfl) ?_
  rw [F1.1]
  refine f_cS2w (atI rfl (by decide) h0.1 (by rw [hfc.2.1]; omega)) oY_X5_at oT_X5_at lk_X5_164 rfl dX5_halves_25 rfl (Or.inl rfl) ?_
  rw [(K1.ca.fg _ h0.1 (by omega)).2.1]
  refine g_iretI rfl dX5_halves_28 ?_
  exact Fq.ret rfl hq K1 hL1
theorem halves_bad {B : Int} {s : Int → Int} (ho : SOK B s) (hc : CSt σ 1 s) {p : Int} (hx : R32 p) (h : ¬ (0 ≤ p ∧ p < 2 * ((3 ^ wH s : Nat) : Int))) : Ft g zX5_halves [.ref 0, iv p] σ l 1 := by
  refine Fn.of [some (.ref 0), some (iv p)] rfl (by decide) (Nat.le_of_ble_eq_true rfl) rfl ?_
  refine g_aload0 dX5_halves_0 ?_
  refine g_iload1 dX5_halves_1 ?_
  refine f_cV1t (needPlay_bad ho hc hx h) rfl (by decide) rfl oY_X5_needPlay oI_X5_needPlay lk_X5_175 rfl dX5_halves_2 (by omega) (by omega) rfl (Or.inl rfl) rfl ?_
  exact Ft.ret
theorem crosses_ok {B : Int} {s : Int → Int} (hK : Kc σ l B s) {p : Int} (hx : R32 p) (h : 0 ≤ p ∧ p < 2 * ((3 ^ wH s : Nat) : Int)) : Fq g zX5_crosses [.ref 0, iv p] σ l B s (iv (crF (fgF ((3 ^ wH s : Nat) : Int) p))) := by
  have ho := hK.ok
  have hc := hK.st
  have hp := p3_le ho.h7
  have hp0 := p3_pos (wH s)
  have hNn : 2 * 3 ^ wH s ≤ 4374 := by omega
  have hNe : ((2 * 3 ^ wH s : Nat) : Int) = 2 * ((3 ^ wH s : Nat) : Int) := by push_cast; rfl
  obtain ⟨L, hL, hF⟩ := freshen_ok (g := g) (lev := 1) hK ⟨by decide, by decide⟩
  refine ⟨L, hL, Fn.of [some (.ref 0), some (iv p)] rfl (by decide) (Nat.le_of_ble_eq_true rfl) rfl ?_⟩
  refine g_aload0 dX5_crosses_0 ?_
  refine g_iload1 dX5_crosses_1 ?_
  refine f_cV1d (needPlay_ok ho hc hx h) rfl (by decide) rfl oY_X5_needPlay oI_X5_needPlay lk_X5_175 rfl dX5_crosses_2 rfl (Or.inl rfl) ?_
  refine g_aload0 dX5_crosses_5 ?_
  refine g_iconst dX5_crosses_6 ?_
  refine f_cV1m (hF) rfl (by decide) rfl oY_X5_freshen oI_X5_freshen lk_X5_178 rfl dX5_crosses_7 (Nat.le_refl _) (Nat.le_refl _) rfl (okFb_of rfl) (fun σ7 l7 h7 => ?_)
  obtain ⟨hq, K1, hv, hL1⟩ := h7
  have c1 := K1.st
  obtain ⟨F1, F2⟩ := K1.ca.p1 (by omega)
  have hfc := K1.ca.fc
  have hrw : ∀ p, 0 ≤ p → p < 2 * ((3 ^ wH s : Nat) : Int) → 0 ≤ fgF ((3 ^ wH s : Nat) : Int) p ∧ fgF ((3 ^ wH s : Nat) : Int) p < ((3 ^ wH s : Nat) : Int) := fun p a0 a1 => fgF_rng a0 a1
  have h0 := hrw p h.1 h.2
  refine g_aload0 dX5_crosses_10 ?_
  refine f_getr (r := 17) rfl (by decide) rfl rfl fl_X5_53 dX5_crosses_11 ?_
  refine f_getr (r := 20) rfl (by decide) rfl rfl fl_X5_196 dX5_crosses_14 ?_
  refine g_aload0 dX5_crosses_17 ?_
  refine f_getr (r := 17) rfl (by decide) rfl rfl fl_X5_53 dX5_crosses_18 ?_
  refine g_iload1 dX5_crosses_21 ?_
  refine f_cV1w (fingeringOf_ok hx (by rw [F1.1]; exact ⟨by omega, by omega⟩)) rfl (by decide) rfl oY_X1_fingeringOf oI_X1_fingeringOf lk_X5_184 rfl dX5_crosses_22 rfl (Or.inl rfl) ?_
  rw [F1.1]
  refine f_cS2w (atI rfl (by decide) h0.1 (by rw [hfc.2.2.1]; omega)) oY_X5_at oT_X5_at lk_X5_164 rfl dX5_crosses_25 rfl (Or.inl rfl) ?_
  rw [(K1.ca.fg _ h0.1 (by omega)).2.2]
  refine g_iretI rfl dX5_crosses_28 ?_
  exact Fq.ret rfl hq K1 hL1
theorem crosses_bad {B : Int} {s : Int → Int} (ho : SOK B s) (hc : CSt σ 1 s) {p : Int} (hx : R32 p) (h : ¬ (0 ≤ p ∧ p < 2 * ((3 ^ wH s : Nat) : Int))) : Ft g zX5_crosses [.ref 0, iv p] σ l 1 := by
  refine Fn.of [some (.ref 0), some (iv p)] rfl (by decide) (Nat.le_of_ble_eq_true rfl) rfl ?_
  refine g_aload0 dX5_crosses_0 ?_
  refine g_iload1 dX5_crosses_1 ?_
  refine f_cV1t (needPlay_bad ho hc hx h) rfl (by decide) rfl oY_X5_needPlay oI_X5_needPlay lk_X5_175 rfl dX5_crosses_2 (by omega) (by omega) rfl (Or.inl rfl) rfl ?_
  exact Ft.ret
theorem cents_ok {B : Int} {s : Int → Int} (hK : Kc σ l B s) {p : Int} (hx : R32 p) (h : 0 ≤ p ∧ p < 2 * ((3 ^ wH s : Nat) : Int)) : Fq g zX5_cents [.ref 0, iv p] σ l B s (iv (wCn s p)) := by
  have ho := hK.ok
  have hc := hK.st
  have hp := p3_le ho.h7
  have hp0 := p3_pos (wH s)
  have hNn : 2 * 3 ^ wH s ≤ 4374 := by omega
  have hNe : ((2 * 3 ^ wH s : Nat) : Int) = 2 * ((3 ^ wH s : Nat) : Int) := by push_cast; rfl
  obtain ⟨L, hL, hF⟩ := freshen_ok (g := g) (lev := 1) hK ⟨by decide, by decide⟩
  refine ⟨L, hL, Fn.of [some (.ref 0), some (iv p)] rfl (by decide) (Nat.le_of_ble_eq_true rfl) rfl ?_⟩
  refine g_aload0 dX5_cents_0 ?_
  refine g_iload1 dX5_cents_1 ?_
  refine f_cV1d (needPlay_ok ho hc hx h) rfl (by decide) rfl oY_X5_needPlay oI_X5_needPlay lk_X5_175 rfl dX5_cents_2 rfl (Or.inl rfl) ?_
  refine g_aload0 dX5_cents_5 ?_
  refine g_iconst dX5_cents_6 ?_
  refine f_cV1m (hF) rfl (by decide) rfl oY_X5_freshen oI_X5_freshen lk_X5_178 rfl dX5_cents_7 (Nat.le_refl _) (Nat.le_refl _) rfl (okFb_of rfl) (fun σ7 l7 h7 => ?_)
  obtain ⟨hq, K1, hv, hL1⟩ := h7
  have c1 := K1.st
  obtain ⟨F1, F2⟩ := K1.ca.p1 (by omega)
  have hfc := K1.ca.fc
  have hrw : ∀ p, 0 ≤ p → p < 2 * ((3 ^ wH s : Nat) : Int) → 0 ≤ fgF ((3 ^ wH s : Nat) : Int) p ∧ fgF ((3 ^ wH s : Nat) : Int) p < ((3 ^ wH s : Nat) : Int) := fun p a0 a1 => fgF_rng a0 a1
  have h0 := hrw p h.1 h.2
  refine g_aload0 dX5_cents_10 ?_
  refine f_getr (r := 17) rfl (by decide) rfl rfl fl_X5_53 dX5_cents_11 ?_
  refine g_iload1 dX5_cents_14 ?_
  refine f_cV1w (centsOf_ok (by rw [F1.1, hfc.2.2.2.2]; omega) (by rw [F1.1]; exact h)) rfl (by decide) rfl oY_X1_centsOf oI_X1_centsOf lk_X5_188 rfl dX5_cents_15 rfl (Or.inl rfl) ?_
  rw [F1.1, (F1.2 _ h0.1 h0.2).2, show wCen s (fgF ((3 ^ wH s : Nat) : Int) p) + (if p < ((3 ^ wH s : Nat) : Int) then 0 else 1200) = wCn s p from rfl]
  refine g_iretI rfl dX5_cents_18 ?_
  exact Fq.ret rfl hq K1 hL1
theorem cents_bad {B : Int} {s : Int → Int} (ho : SOK B s) (hc : CSt σ 1 s) {p : Int} (hx : R32 p) (h : ¬ (0 ≤ p ∧ p < 2 * ((3 ^ wH s : Nat) : Int))) : Ft g zX5_cents [.ref 0, iv p] σ l 1 := by
  refine Fn.of [some (.ref 0), some (iv p)] rfl (by decide) (Nat.le_of_ble_eq_true rfl) rfl ?_
  refine g_aload0 dX5_cents_0 ?_
  refine g_iload1 dX5_cents_1 ?_
  refine f_cV1t (needPlay_bad ho hc hx h) rfl (by decide) rfl oY_X5_needPlay oI_X5_needPlay lk_X5_175 rfl dX5_cents_2 (by omega) (by omega) rfl (Or.inl rfl) rfl ?_
  exact Ft.ret
theorem tone_ok {B : Int} {s : Int → Int} (hK : Kc σ l B s) {p : Int} (hx : R32 p) (h : 0 ≤ p ∧ p < 2 * ((3 ^ wH s : Nat) : Int)) : Fq g zX5_tone [.ref 0, iv p] σ l B s (iv (wT s p)) := by
  have ho := hK.ok
  have hc := hK.st
  have hp := p3_le ho.h7
  have hp0 := p3_pos (wH s)
  have hNn : 2 * 3 ^ wH s ≤ 4374 := by omega
  have hNe : ((2 * 3 ^ wH s : Nat) : Int) = 2 * ((3 ^ wH s : Nat) : Int) := by push_cast; rfl
  obtain ⟨L, hL, hF⟩ := freshen_ok (g := g) (lev := 1) hK ⟨by decide, by decide⟩
  refine ⟨L, hL, Fn.of [some (.ref 0), some (iv p)] rfl (by decide) (Nat.le_of_ble_eq_true rfl) rfl ?_⟩
  refine g_aload0 dX5_tone_0 ?_
  refine g_iload1 dX5_tone_1 ?_
  refine f_cV1d (needPlay_ok ho hc hx h) rfl (by decide) rfl oY_X5_needPlay oI_X5_needPlay lk_X5_175 rfl dX5_tone_2 rfl (Or.inl rfl) ?_
  refine g_aload0 dX5_tone_5 ?_
  refine g_iconst dX5_tone_6 ?_
  refine f_cV1m (hF) rfl (by decide) rfl oY_X5_freshen oI_X5_freshen lk_X5_178 rfl dX5_tone_7 (Nat.le_refl _) (Nat.le_refl _) rfl (okFb_of rfl) (fun σ7 l7 h7 => ?_)
  obtain ⟨hq, K1, hv, hL1⟩ := h7
  have c1 := K1.st
  obtain ⟨F1, F2⟩ := K1.ca.p1 (by omega)
  have hfc := K1.ca.fc
  have hrw : ∀ p, 0 ≤ p → p < 2 * ((3 ^ wH s : Nat) : Int) → 0 ≤ fgF ((3 ^ wH s : Nat) : Int) p ∧ fgF ((3 ^ wH s : Nat) : Int) p < ((3 ^ wH s : Nat) : Int) := fun p a0 a1 => fgF_rng a0 a1
  have h0 := hrw p h.1 h.2
  refine g_aload0 dX5_tone_10 ?_
  refine f_getr (r := 17) rfl (by decide) rfl rfl fl_X5_53 dX5_tone_11 ?_
  refine g_iload1 dX5_tone_14 ?_
  refine f_cV1w (centsOf_ok (by rw [F1.1, hfc.2.2.2.2]; omega) (by rw [F1.1]; exact h)) rfl (by decide) rfl oY_X1_centsOf oI_X1_centsOf lk_X5_188 rfl dX5_tone_15 rfl (Or.inl rfl) ?_
  rw [F1.1, (F1.2 _ h0.1 h0.2).2, show wCen s (fgF ((3 ^ wH s : Nat) : Int) p) + (if p < ((3 ^ wH s : Nat) : Int) then 0 else 1200) = wCn s p from rfl]
  refine g_aload0 dX5_tone_18 ?_
  refine f_getr (r := 1) rfl (by decide) rfl rfl fl_X5_10 dX5_tone_19 ?_
  refine f_geti (J := 2) rfl (by decide) rfl rfl fl_X5_120 dX5_tone_22 ?_
  rw [c1.f2]
  refine f_cS2w (toneOf_ok (by have := wCn_rng ho p; omega) ⟨by have := ho.tol; omega, by have := ho.tol; omega⟩) oY_X5_toneOf oT_X5_toneOf lk_X5_191 rfl dX5_tone_25 rfl (Or.inl rfl) ?_
  refine g_iretI rfl dX5_tone_28 ?_
  exact Fq.ret rfl hq K1 hL1
theorem tone_bad {B : Int} {s : Int → Int} (ho : SOK B s) (hc : CSt σ 1 s) {p : Int} (hx : R32 p) (h : ¬ (0 ≤ p ∧ p < 2 * ((3 ^ wH s : Nat) : Int))) : Ft g zX5_tone [.ref 0, iv p] σ l 1 := by
  refine Fn.of [some (.ref 0), some (iv p)] rfl (by decide) (Nat.le_of_ble_eq_true rfl) rfl ?_
  refine g_aload0 dX5_tone_0 ?_
  refine g_iload1 dX5_tone_1 ?_
  refine f_cV1t (needPlay_bad ho hc hx h) rfl (by decide) rfl oY_X5_needPlay oI_X5_needPlay lk_X5_175 rfl dX5_tone_2 (by omega) (by omega) rfl (Or.inl rfl) rfl ?_
  exact Ft.ret
theorem off_ok {B : Int} {s : Int → Int} (hK : Kc σ l B s) {p : Int} (hx : R32 p) (h : 0 ≤ p ∧ p < 2 * ((3 ^ wH s : Nat) : Int)) : Fq g zX5_off [.ref 0, iv p] σ l B s (iv (offC (wCn s p))) := by
  have ho := hK.ok
  have hc := hK.st
  have hp := p3_le ho.h7
  have hp0 := p3_pos (wH s)
  have hNn : 2 * 3 ^ wH s ≤ 4374 := by omega
  have hNe : ((2 * 3 ^ wH s : Nat) : Int) = 2 * ((3 ^ wH s : Nat) : Int) := by push_cast; rfl
  obtain ⟨L, hL, hF⟩ := freshen_ok (g := g) (lev := 1) hK ⟨by decide, by decide⟩
  refine ⟨L, hL, Fn.of [some (.ref 0), some (iv p), none] rfl (by decide) (Nat.le_of_ble_eq_true rfl) rfl ?_⟩
  refine g_aload0 dX5_off_0 ?_
  refine g_iload1 dX5_off_1 ?_
  refine f_cV1d (needPlay_ok ho hc hx h) rfl (by decide) rfl oY_X5_needPlay oI_X5_needPlay lk_X5_175 rfl dX5_off_2 rfl (Or.inl rfl) ?_
  refine g_aload0 dX5_off_5 ?_
  refine g_iconst dX5_off_6 ?_
  refine f_cV1m (hF) rfl (by decide) rfl oY_X5_freshen oI_X5_freshen lk_X5_178 rfl dX5_off_7 (Nat.le_refl _) (Nat.le_refl _) rfl (okFb_of rfl) (fun σ7 l7 h7 => ?_)
  obtain ⟨hq, K1, hv, hL1⟩ := h7
  have c1 := K1.st
  obtain ⟨F1, F2⟩ := K1.ca.p1 (by omega)
  have hfc := K1.ca.fc
  have hrw : ∀ p, 0 ≤ p → p < 2 * ((3 ^ wH s : Nat) : Int) → 0 ≤ fgF ((3 ^ wH s : Nat) : Int) p ∧ fgF ((3 ^ wH s : Nat) : Int) p < ((3 ^ wH s : Nat) : Int) := fun p a0 a1 => fgF_rng a0 a1
  have h0 := hrw p h.1 h.2
  refine g_aload0 dX5_off_10 ?_
  refine f_getr (r := 17) rfl (by decide) rfl rfl fl_X5_53 dX5_off_11 ?_
  refine g_iload1 dX5_off_14 ?_
  refine f_cV1w (centsOf_ok (by rw [F1.1, hfc.2.2.2.2]; omega) (by rw [F1.1]; exact h)) rfl (by decide) rfl oY_X1_centsOf oI_X1_centsOf lk_X5_188 rfl dX5_off_15 rfl (Or.inl rfl) ?_
  rw [F1.1, (F1.2 _ h0.1 h0.2).2, show wCen s (fgF ((3 ^ wH s : Nat) : Int) p) + (if p < ((3 ^ wH s : Nat) : Int) then 0 else 1200) = wCn s p from rfl]
  refine g_bipush dX5_off_18 (by decide) ?_
  refine g_irem ⟨by have := wCn_rng ho p; omega, by have := wCn_rng ho p; omega⟩ ⟨by omega, by omega⟩ dX5_off_20 ?_
  have hr := wCn_rng ho p
  refine g_istore2 dX5_off_21 rfl (by decide) ?_
  refine g_iload2 dX5_off_22 ?_
  refine g_bipush dX5_off_23 (by decide) ?_
  refine g_icmp_gt ⟨by omega, by omega⟩ ⟨by omega, by omega⟩ (tgt := 32) dX5_off_25 rfl (fun h25 => ?_) (fun h25 => ?_)
  · refine g_iload2 dX5_off_32 ?_
    refine g_bipush dX5_off_33 (by decide) ?_
    refine g_isub dX5_off_35 ?_
    refine g_iretI rfl dX5_off_36 ?_
    exact Fq.ret (by unfold offC; first | rw [if_pos (by omega)] | rw [if_neg (by omega)]) hq K1 hL1
  · refine g_iload2 dX5_off_28 ?_
    refine g_goto (tgt := 36) dX5_off_29 rfl ?_
    refine g_iretI rfl dX5_off_36 ?_
    exact Fq.ret (by unfold offC; first | rw [if_pos (by omega)] | rw [if_neg (by omega)]) hq K1 hL1
theorem off_bad {B : Int} {s : Int → Int} (ho : SOK B s) (hc : CSt σ 1 s) {p : Int} (hx : R32 p) (h : ¬ (0 ≤ p ∧ p < 2 * ((3 ^ wH s : Nat) : Int))) : Ft g zX5_off [.ref 0, iv p] σ l 1 := by
  refine Fn.of [some (.ref 0), some (iv p), none] rfl (by decide) (Nat.le_of_ble_eq_true rfl) rfl ?_
  refine g_aload0 dX5_off_0 ?_
  refine g_iload1 dX5_off_1 ?_
  refine f_cV1t (needPlay_bad ho hc hx h) rfl (by decide) rfl oY_X5_needPlay oI_X5_needPlay lk_X5_175 rfl dX5_off_2 (by omega) (by omega) rfl (Or.inl rfl) rfl ?_
  exact Ft.ret
theorem isEasy_ok {B : Int} {s : Int → Int} (hK : Kc σ l B s) {p : Int} (hx : R32 p) (h : 0 ≤ p ∧ p < 2 * ((3 ^ wH s : Nat) : Int)) : Fq g zX5_isEasy [.ref 0, iv p] σ l B s (bv (hvF (fgF ((3 ^ wH s : Nat) : Int) p) ≤ s 4 ∧ crF (fgF ((3 ^ wH s : Nat) : Int) p) ≤ s 5)) := by
  have ho := hK.ok
  have hc := hK.st
  have hp := p3_le ho.h7
  have hp0 := p3_pos (wH s)
  have hNn : 2 * 3 ^ wH s ≤ 4374 := by omega
  have hNe : ((2 * 3 ^ wH s : Nat) : Int) = 2 * ((3 ^ wH s : Nat) : Int) := by push_cast; rfl
  obtain ⟨L, hL, hF⟩ := freshen_ok (g := g) (lev := 1) hK ⟨by decide, by decide⟩
  refine ⟨L, hL, Fn.of [some (.ref 0), some (iv p), none] rfl (by decide) (Nat.le_of_ble_eq_true rfl) rfl ?_⟩
  refine g_aload0 dX5_isEasy_0 ?_
  refine g_iload1 dX5_isEasy_1 ?_
  refine f_cV1d (needPlay_ok ho hc hx h) rfl (by decide) rfl oY_X5_needPlay oI_X5_needPlay lk_X5_175 rfl dX5_isEasy_2 rfl (Or.inl rfl) ?_
  refine g_aload0 dX5_isEasy_5 ?_
  refine g_iconst dX5_isEasy_6 ?_
  refine f_cV1m (hF) rfl (by decide) rfl oY_X5_freshen oI_X5_freshen lk_X5_178 rfl dX5_isEasy_7 (Nat.le_refl _) (Nat.le_refl _) rfl (okFb_of rfl) (fun σ7 l7 h7 => ?_)
  obtain ⟨hq, K1, hv, hL1⟩ := h7
  have c1 := K1.st
  obtain ⟨F1, F2⟩ := K1.ca.p1 (by omega)
  have hfc := K1.ca.fc
  have hrw : ∀ p, 0 ≤ p → p < 2 * ((3 ^ wH s : Nat) : Int) → 0 ≤ fgF ((3 ^ wH s : Nat) : Int) p ∧ fgF ((3 ^ wH s : Nat) : Int) p < ((3 ^ wH s : Nat) : Int) := fun p a0 a1 => fgF_rng a0 a1
  have h0 := hrw p h.1 h.2
  have b1 := hvF_rng (fgF ((3 ^ wH s : Nat) : Int) p)
  have b2 := crF_rng (fgF ((3 ^ wH s : Nat) : Int) p)
  have b3 := ho.halves
  have b4 := ho.crosses
  refine g_aload0 dX5_isEasy_10 ?_
  refine f_getr (r := 17) rfl (by decide) rfl rfl fl_X5_53 dX5_isEasy_11 ?_
  refine g_iload1 dX5_isEasy_14 ?_
  refine f_cV1w (fingeringOf_ok hx (by rw [F1.1]; exact ⟨by omega, by omega⟩)) rfl (by decide) rfl oY_X1_fingeringOf oI_X1_fingeringOf lk_X5_184 rfl dX5_isEasy_15 rfl (Or.inl rfl) ?_
  rw [F1.1]
  refine g_istore2 dX5_isEasy_18 rfl (by decide) ?_
  refine g_aload0 dX5_isEasy_19 ?_
  refine f_getr (r := 17) rfl (by decide) rfl rfl fl_X5_53 dX5_isEasy_20 ?_
  refine f_getr (r := 19) rfl (by decide) rfl rfl fl_X5_194 dX5_isEasy_23 ?_
  refine g_iload2 dX5_isEasy_26 ?_
  refine f_cS2w (atI rfl (by decide) h0.1 (by rw [hfc.2.1]; omega)) oY_X5_at oT_X5_at lk_X5_164 rfl dX5_isEasy_27 rfl (Or.inl rfl) ?_
  rw [(K1.ca.fg _ h0.1 (by omega)).2.1]
  refine g_aload0 dX5_isEasy_30 ?_
  refine f_getr (r := 1) rfl (by decide) rfl rfl fl_X5_10 dX5_isEasy_31 ?_
  refine f_geti (J := 3) rfl (by decide) rfl rfl fl_X5_126 dX5_isEasy_34 ?_
  rw [c1.f3]
  refine g_icmp_gt ⟨by omega, by omega⟩ ⟨by omega, by omega⟩ (tgt := 65) dX5_isEasy_37 rfl (fun h37 => ?_) (fun h37 => ?_)
  · refine g_iconst dX5_isEasy_65 ?_
    refine g_iretB (Or.inl rfl) rfl dX5_isEasy_66 ?_
    exact Fq.ret (by simp only [bv]; first | rw [if_pos ⟨by omega, by omega⟩] | rw [if_neg (fun z => by omega)]) hq K1 hL1
  · refine g_aload0 dX5_isEasy_40 ?_
    refine f_getr (r := 17) rfl (by decide) rfl rfl fl_X5_53 dX5_isEasy_41 ?_
    refine f_getr (r := 20) rfl (by decide) rfl rfl fl_X5_196 dX5_isEasy_44 ?_
    refine g_iload2 dX5_isEasy_47 ?_
    refine f_cS2w (atI rfl (by decide) h0.1 (by rw [hfc.2.2.1]; omega)) oY_X5_at oT_X5_at lk_X5_164 rfl dX5_isEasy_48 rfl (Or.inl rfl) ?_
    rw [(K1.ca.fg _ h0.1 (by omega)).2.2]
    refine g_aload0 dX5_isEasy_51 ?_
    refine f_getr (r := 1) rfl (by decide) rfl rfl fl_X5_10 dX5_isEasy_52 ?_
    refine f_geti (J := 4) rfl (by decide) rfl rfl fl_X5_129 dX5_isEasy_55 ?_
    rw [c1.f4]
    refine g_icmp_gt ⟨by omega, by omega⟩ ⟨by omega, by omega⟩ (tgt := 65) dX5_isEasy_58 rfl (fun h58 => ?_) (fun h58 => ?_)
    · refine g_iconst dX5_isEasy_65 ?_
      refine g_iretB (Or.inl rfl) rfl dX5_isEasy_66 ?_
      exact Fq.ret (by simp only [bv]; first | rw [if_pos ⟨by omega, by omega⟩] | rw [if_neg (fun z => by omega)]) hq K1 hL1
    · refine g_iconst dX5_isEasy_61 ?_
      refine g_goto (tgt := 66) dX5_isEasy_62 rfl ?_
      refine g_iretB (Or.inr rfl) rfl dX5_isEasy_66 ?_
      exact Fq.ret (by simp only [bv]; first | rw [if_pos ⟨by omega, by omega⟩] | rw [if_neg (fun z => by omega)]) hq K1 hL1
theorem isEasy_bad {B : Int} {s : Int → Int} (ho : SOK B s) (hc : CSt σ 1 s) {p : Int} (hx : R32 p) (h : ¬ (0 ≤ p ∧ p < 2 * ((3 ^ wH s : Nat) : Int))) : Ft g zX5_isEasy [.ref 0, iv p] σ l 1 := by
  refine Fn.of [some (.ref 0), some (iv p), none] rfl (by decide) (Nat.le_of_ble_eq_true rfl) rfl ?_
  refine g_aload0 dX5_isEasy_0 ?_
  refine g_iload1 dX5_isEasy_1 ?_
  refine f_cV1t (needPlay_bad ho hc hx h) rfl (by decide) rfl oY_X5_needPlay oI_X5_needPlay lk_X5_175 rfl dX5_isEasy_2 (by omega) (by omega) rfl (Or.inl rfl) rfl ?_
  exact Ft.ret
def wSz16 (s : Int → Int) (c w : Int) : Int := if w = 10 then s 9 - cntS (wTu s) (wN s) else if w = 11 then 2 * ((3 ^ wH s : Nat) : Int) else if w = 12 then s 10 else if w = 13 then s 11 else if w = 14 then s 12 else if w = 15 then c else s w
theorem cntS_congr {f f' : Int → Int} (n : Nat) (h : ∀ k : Nat, k < n → f k = f' k) : cntS f n = cntS f' n := by
  induction n with
  | zero => rfl
  | succ n ih => unfold cntS; rw [ih (fun k hk => h k (by omega)), h n (by omega)]
theorem size_ok {B : Int} {s : Int → Int} (hK : Kc σ l B s) {w c : Int} (h : 0 ≤ w ∧ w ≤ 15) (h4 : σ 0 4 = c) : Fw g zX5_size [.ref 0, iv w] σ l (iv (wSz16 s c w)) := by
  have ho := hK.ok
  have hc := hK.st
  have hp := p3_le ho.h7
  have hw : w = 0 ∨ w = 1 ∨ w = 2 ∨ w = 3 ∨ w = 4 ∨ w = 5 ∨ w = 6 ∨ w = 7 ∨ w = 8 ∨ w = 9 ∨ w = 10 ∨ w = 11 ∨ w = 12 ∨ w = 13 ∨ w = 14 ∨ w = 15 := by omega
  refine Fn.of [some (.ref 0), some (iv w)] rfl (by decide) (Nat.le_of_ble_eq_true rfl) rfl ?_
  rcases hw with rfl | rfl | rfl | rfl | rfl | rfl | rfl | rfl | rfl | rfl | rfl | rfl | rfl | rfl | rfl | rfl
  · refine g_aload0 dX5_size_0 ?_
    refine g_iload1 dX5_size_1 ?_
    refine g_iconst dX5_size_2 ?_
    refine g_bipush dX5_size_3 (by decide) ?_
    refine f_cV3d (needRange_ok ⟨by decide, by decide⟩ ⟨by decide, by decide⟩ ⟨by decide, by decide⟩ ⟨by decide, by decide⟩) rfl (by decide) rfl oY_X5_needRange oI_X5_needRange lk_X5_110 rfl dX5_size_5 rfl (Or.inl rfl) ?_
    refine g_iload1 dX5_size_8 ?_
    refine g_tabIn (tgt := 84) (off := 75) ⟨by omega, by omega⟩ (by omega) (by omega) dX5_size_9 rfl rfl ?_
    refine g_aload0 dX5_size_84 ?_
    refine f_getr (r := 1) rfl (by decide) rfl rfl fl_X5_10 dX5_size_85 ?_
    refine f_geti (J := 0) rfl (by decide) rfl rfl fl_X5_114 dX5_size_88 ?_
    rw [hc.f0]
    refine g_iretI rfl dX5_size_91 ?_
    exact Fw.ret rfl
  · refine g_aload0 dX5_size_0 ?_
    refine g_iload1 dX5_size_1 ?_
    refine g_iconst dX5_size_2 ?_
    refine g_bipush dX5_size_3 (by decide) ?_
    refine f_cV3d (needRange_ok ⟨by decide, by decide⟩ ⟨by decide, by decide⟩ ⟨by decide, by decide⟩ ⟨by decide, by decide⟩) rfl (by decide) rfl oY_X5_needRange oI_X5_needRange lk_X5_110 rfl dX5_size_5 rfl (Or.inl rfl) ?_
    refine g_iload1 dX5_size_8 ?_
    refine g_tabIn (tgt := 92) (off := 83) ⟨by omega, by omega⟩ (by omega) (by omega) dX5_size_9 rfl rfl ?_
    refine g_aload0 dX5_size_92 ?_
    refine f_getr (r := 1) rfl (by decide) rfl rfl fl_X5_10 dX5_size_93 ?_
    refine f_geti (J := 1) rfl (by decide) rfl rfl fl_X5_117 dX5_size_96 ?_
    rw [hc.f1]
    refine g_iretI rfl dX5_size_99 ?_
    exact Fw.ret rfl
  · refine g_aload0 dX5_size_0 ?_
    refine g_iload1 dX5_size_1 ?_
    refine g_iconst dX5_size_2 ?_
    refine g_bipush dX5_size_3 (by decide) ?_
    refine f_cV3d (needRange_ok ⟨by decide, by decide⟩ ⟨by decide, by decide⟩ ⟨by decide, by decide⟩ ⟨by decide, by decide⟩) rfl (by decide) rfl oY_X5_needRange oI_X5_needRange lk_X5_110 rfl dX5_size_5 rfl (Or.inl rfl) ?_
    refine g_iload1 dX5_size_8 ?_
    refine g_tabIn (tgt := 100) (off := 91) ⟨by omega, by omega⟩ (by omega) (by omega) dX5_size_9 rfl rfl ?_
    refine g_aload0 dX5_size_100 ?_
    refine f_getr (r := 1) rfl (by decide) rfl rfl fl_X5_10 dX5_size_101 ?_
    refine f_geti (J := 2) rfl (by decide) rfl rfl fl_X5_120 dX5_size_104 ?_
    rw [hc.f2]
    refine g_iretI rfl dX5_size_107 ?_
    exact Fw.ret rfl
  · refine g_aload0 dX5_size_0 ?_
    refine g_iload1 dX5_size_1 ?_
    refine g_iconst dX5_size_2 ?_
    refine g_bipush dX5_size_3 (by decide) ?_
    refine f_cV3d (needRange_ok ⟨by decide, by decide⟩ ⟨by decide, by decide⟩ ⟨by decide, by decide⟩ ⟨by decide, by decide⟩) rfl (by decide) rfl oY_X5_needRange oI_X5_needRange lk_X5_110 rfl dX5_size_5 rfl (Or.inl rfl) ?_
    refine g_iload1 dX5_size_8 ?_
    refine g_tabIn (tgt := 108) (off := 99) ⟨by omega, by omega⟩ (by omega) (by omega) dX5_size_9 rfl rfl ?_
    refine g_aload0 dX5_size_108 ?_
    refine f_getr (r := 1) rfl (by decide) rfl rfl fl_X5_10 dX5_size_109 ?_
    refine f_geti (J := 8) rfl (by decide) rfl rfl fl_X5_123 dX5_size_112 ?_
    rw [hc.f8]
    refine g_iretI rfl dX5_size_115 ?_
    exact Fw.ret rfl
  · refine g_aload0 dX5_size_0 ?_
    refine g_iload1 dX5_size_1 ?_
    refine g_iconst dX5_size_2 ?_
    refine g_bipush dX5_size_3 (by decide) ?_
    refine f_cV3d (needRange_ok ⟨by decide, by decide⟩ ⟨by decide, by decide⟩ ⟨by decide, by decide⟩ ⟨by decide, by decide⟩) rfl (by decide) rfl oY_X5_needRange oI_X5_needRange lk_X5_110 rfl dX5_size_5 rfl (Or.inl rfl) ?_
    refine g_iload1 dX5_size_8 ?_
    refine g_tabIn (tgt := 116) (off := 107) ⟨by omega, by omega⟩ (by omega) (by omega) dX5_size_9 rfl rfl ?_
    refine g_aload0 dX5_size_116 ?_
    refine f_getr (r := 1) rfl (by decide) rfl rfl fl_X5_10 dX5_size_117 ?_
    refine f_geti (J := 3) rfl (by decide) rfl rfl fl_X5_126 dX5_size_120 ?_
    rw [hc.f3]
    refine g_iretI rfl dX5_size_123 ?_
    exact Fw.ret rfl
  · refine g_aload0 dX5_size_0 ?_
    refine g_iload1 dX5_size_1 ?_
    refine g_iconst dX5_size_2 ?_
    refine g_bipush dX5_size_3 (by decide) ?_
    refine f_cV3d (needRange_ok ⟨by decide, by decide⟩ ⟨by decide, by decide⟩ ⟨by decide, by decide⟩ ⟨by decide, by decide⟩) rfl (by decide) rfl oY_X5_needRange oI_X5_needRange lk_X5_110 rfl dX5_size_5 rfl (Or.inl rfl) ?_
    refine g_iload1 dX5_size_8 ?_
    refine g_tabIn (tgt := 124) (off := 115) ⟨by omega, by omega⟩ (by omega) (by omega) dX5_size_9 rfl rfl ?_
    refine g_aload0 dX5_size_124 ?_
    refine f_getr (r := 1) rfl (by decide) rfl rfl fl_X5_10 dX5_size_125 ?_
    refine f_geti (J := 4) rfl (by decide) rfl rfl fl_X5_129 dX5_size_128 ?_
    rw [hc.f4]
    refine g_iretI rfl dX5_size_131 ?_
    exact Fw.ret rfl
  · refine g_aload0 dX5_size_0 ?_
    refine g_iload1 dX5_size_1 ?_
    refine g_iconst dX5_size_2 ?_
    refine g_bipush dX5_size_3 (by decide) ?_
    refine f_cV3d (needRange_ok ⟨by decide, by decide⟩ ⟨by decide, by decide⟩ ⟨by decide, by decide⟩ ⟨by decide, by decide⟩) rfl (by decide) rfl oY_X5_needRange oI_X5_needRange lk_X5_110 rfl dX5_size_5 rfl (Or.inl rfl) ?_
    refine g_iload1 dX5_size_8 ?_
    refine g_tabIn (tgt := 132) (off := 123) ⟨by omega, by omega⟩ (by omega) (by omega) dX5_size_9 rfl rfl ?_
    refine g_aload0 dX5_size_132 ?_
    refine f_getr (r := 1) rfl (by decide) rfl rfl fl_X5_10 dX5_size_133 ?_
    refine f_geti (J := 5) rfl (by decide) rfl rfl fl_X5_132 dX5_size_136 ?_
    rw [hc.f5]
    refine g_iretI rfl dX5_size_139 ?_
    exact Fw.ret rfl
  · refine g_aload0 dX5_size_0 ?_
    refine g_iload1 dX5_size_1 ?_
    refine g_iconst dX5_size_2 ?_
    refine g_bipush dX5_size_3 (by decide) ?_
    refine f_cV3d (needRange_ok ⟨by decide, by decide⟩ ⟨by decide, by decide⟩ ⟨by decide, by decide⟩ ⟨by decide, by decide⟩) rfl (by decide) rfl oY_X5_needRange oI_X5_needRange lk_X5_110 rfl dX5_size_5 rfl (Or.inl rfl) ?_
    refine g_iload1 dX5_size_8 ?_
    refine g_tabIn (tgt := 140) (off := 131) ⟨by omega, by omega⟩ (by omega) (by omega) dX5_size_9 rfl rfl ?_
    refine g_aload0 dX5_size_140 ?_
    refine f_getr (r := 1) rfl (by decide) rfl rfl fl_X5_10 dX5_size_141 ?_
    refine f_geti (J := 6) rfl (by decide) rfl rfl fl_X5_135 dX5_size_144 ?_
    rw [hc.f6]
    refine g_iretI rfl dX5_size_147 ?_
    exact Fw.ret rfl
  · refine g_aload0 dX5_size_0 ?_
    refine g_iload1 dX5_size_1 ?_
    refine g_iconst dX5_size_2 ?_
    refine g_bipush dX5_size_3 (by decide) ?_
    refine f_cV3d (needRange_ok ⟨by decide, by decide⟩ ⟨by decide, by decide⟩ ⟨by decide, by decide⟩ ⟨by decide, by decide⟩) rfl (by decide) rfl oY_X5_needRange oI_X5_needRange lk_X5_110 rfl dX5_size_5 rfl (Or.inl rfl) ?_
    refine g_iload1 dX5_size_8 ?_
    refine g_tabIn (tgt := 148) (off := 139) ⟨by omega, by omega⟩ (by omega) (by omega) dX5_size_9 rfl rfl ?_
    refine g_aload0 dX5_size_148 ?_
    refine f_getr (r := 1) rfl (by decide) rfl rfl fl_X5_10 dX5_size_149 ?_
    refine f_geti (J := 7) rfl (by decide) rfl rfl fl_X5_138 dX5_size_152 ?_
    rw [hc.f7]
    refine g_iretI rfl dX5_size_155 ?_
    exact Fw.ret rfl
  · refine g_aload0 dX5_size_0 ?_
    refine g_iload1 dX5_size_1 ?_
    refine g_iconst dX5_size_2 ?_
    refine g_bipush dX5_size_3 (by decide) ?_
    refine f_cV3d (needRange_ok ⟨by decide, by decide⟩ ⟨by decide, by decide⟩ ⟨by decide, by decide⟩ ⟨by decide, by decide⟩) rfl (by decide) rfl oY_X5_needRange oI_X5_needRange lk_X5_110 rfl dX5_size_5 rfl (Or.inl rfl) ?_
    refine g_iload1 dX5_size_8 ?_
    refine g_tabIn (tgt := 156) (off := 147) ⟨by omega, by omega⟩ (by omega) (by omega) dX5_size_9 rfl rfl ?_
    refine g_aload0 dX5_size_156 ?_
    refine f_getr (r := 1) rfl (by decide) rfl rfl fl_X5_10 dX5_size_157 ?_
    refine f_geti (J := 9) rfl (by decide) rfl rfl fl_X5_101 dX5_size_160 ?_
    rw [hc.f9]
    refine g_iretI rfl dX5_size_163 ?_
    exact Fw.ret rfl
  · refine g_aload0 dX5_size_0 ?_
    refine g_iload1 dX5_size_1 ?_
    refine g_iconst dX5_size_2 ?_
    refine g_bipush dX5_size_3 (by decide) ?_
    refine f_cV3d (needRange_ok ⟨by decide, by decide⟩ ⟨by decide, by decide⟩ ⟨by decide, by decide⟩ ⟨by decide, by decide⟩) rfl (by decide) rfl oY_X5_needRange oI_X5_needRange lk_X5_110 rfl dX5_size_5 rfl (Or.inl rfl) ?_
    refine g_iload1 dX5_size_8 ?_
    refine g_tabIn (tgt := 164) (off := 155) ⟨by omega, by omega⟩ (by omega) (by omega) dX5_size_9 rfl rfl ?_
    refine g_aload0 dX5_size_164 ?_
    refine f_getr (r := 1) rfl (by decide) rfl rfl fl_X5_10 dX5_size_165 ?_
    refine f_geti (J := 9) rfl (by decide) rfl rfl fl_X5_101 dX5_size_168 ?_
    rw [hc.f9]
    refine g_aload0 dX5_size_171 ?_
    refine f_getr (r := 1) rfl (by decide) rfl rfl fl_X5_10 dX5_size_172 ?_
    refine f_cV0w (soundingNotes_ok isSt1 (hc.N ho) ho.n40 (fun i a0 a1 => by have := hc.t4 ho i a0 a1; exact ⟨by show -2147483648 ≤ σ 4 i; omega, by show σ 4 i ≤ 2147483647; omega⟩)) rfl (by decide) rfl oY_X3_soundingNotes oI_X3_soundingNotes lk_X5_141 rfl dX5_size_175 rfl (Or.inl rfl) ?_
    rw [cntS_congr (f' := wTu s) _ (fun k hk => hc.tu k (by omega) (by rw [ho.nI]; omega))]
    refine g_isub dX5_size_178 ?_
    refine g_iretI rfl dX5_size_179 ?_
    exact Fw.ret rfl
  · refine g_aload0 dX5_size_0 ?_
    refine g_iload1 dX5_size_1 ?_
    refine g_iconst dX5_size_2 ?_
    refine g_bipush dX5_size_3 (by decide) ?_
    refine f_cV3d (needRange_ok ⟨by decide, by decide⟩ ⟨by decide, by decide⟩ ⟨by decide, by decide⟩ ⟨by decide, by decide⟩) rfl (by decide) rfl oY_X5_needRange oI_X5_needRange lk_X5_110 rfl dX5_size_5 rfl (Or.inl rfl) ?_
    refine g_iload1 dX5_size_8 ?_
    refine g_tabIn (tgt := 180) (off := 171) ⟨by omega, by omega⟩ (by omega) (by omega) dX5_size_9 rfl rfl ?_
    refine g_aload0 dX5_size_180 ?_
    refine f_getr (r := 1) rfl (by decide) rfl rfl fl_X5_10 dX5_size_181 ?_
    refine f_cV0w (playCount_ok isSt1 (by rw [hc.H ho]; have := ho.h7; exact ⟨by omega, by omega⟩)) rfl (by decide) rfl oY_X3_playCount oI_X3_playCount lk_X5_145 rfl dX5_size_184 rfl (Or.inl rfl) ?_
    rw [hc.H ho, pw_nat (by have := ho.h7; omega)]
    refine g_iretI rfl dX5_size_187 ?_
    exact Fw.ret rfl
  · refine g_aload0 dX5_size_0 ?_
    refine g_iload1 dX5_size_1 ?_
    refine g_iconst dX5_size_2 ?_
    refine g_bipush dX5_size_3 (by decide) ?_
    refine f_cV3d (needRange_ok ⟨by decide, by decide⟩ ⟨by decide, by decide⟩ ⟨by decide, by decide⟩ ⟨by decide, by decide⟩) rfl (by decide) rfl oY_X5_needRange oI_X5_needRange lk_X5_110 rfl dX5_size_5 rfl (Or.inl rfl) ?_
    refine g_iload1 dX5_size_8 ?_
    refine g_tabIn (tgt := 188) (off := 179) ⟨by omega, by omega⟩ (by omega) (by omega) dX5_size_9 rfl rfl ?_
    refine g_aload0 dX5_size_188 ?_
    refine f_getr (r := 1) rfl (by decide) rfl rfl fl_X5_10 dX5_size_189 ?_
    refine f_geti (J := 10) rfl (by decide) rfl rfl fl_X5_148 dX5_size_192 ?_
    rw [hc.f10]
    refine g_iretI rfl dX5_size_195 ?_
    exact Fw.ret rfl
  · refine g_aload0 dX5_size_0 ?_
    refine g_iload1 dX5_size_1 ?_
    refine g_iconst dX5_size_2 ?_
    refine g_bipush dX5_size_3 (by decide) ?_
    refine f_cV3d (needRange_ok ⟨by decide, by decide⟩ ⟨by decide, by decide⟩ ⟨by decide, by decide⟩ ⟨by decide, by decide⟩) rfl (by decide) rfl oY_X5_needRange oI_X5_needRange lk_X5_110 rfl dX5_size_5 rfl (Or.inl rfl) ?_
    refine g_iload1 dX5_size_8 ?_
    refine g_tabIn (tgt := 196) (off := 187) ⟨by omega, by omega⟩ (by omega) (by omega) dX5_size_9 rfl rfl ?_
    refine g_aload0 dX5_size_196 ?_
    refine f_getr (r := 1) rfl (by decide) rfl rfl fl_X5_10 dX5_size_197 ?_
    refine f_geti (J := 11) rfl (by decide) rfl rfl fl_X5_151 dX5_size_200 ?_
    rw [hc.f11]
    refine g_iretI rfl dX5_size_203 ?_
    exact Fw.ret rfl
  · refine g_aload0 dX5_size_0 ?_
    refine g_iload1 dX5_size_1 ?_
    refine g_iconst dX5_size_2 ?_
    refine g_bipush dX5_size_3 (by decide) ?_
    refine f_cV3d (needRange_ok ⟨by decide, by decide⟩ ⟨by decide, by decide⟩ ⟨by decide, by decide⟩ ⟨by decide, by decide⟩) rfl (by decide) rfl oY_X5_needRange oI_X5_needRange lk_X5_110 rfl dX5_size_5 rfl (Or.inl rfl) ?_
    refine g_iload1 dX5_size_8 ?_
    refine g_tabIn (tgt := 204) (off := 195) ⟨by omega, by omega⟩ (by omega) (by omega) dX5_size_9 rfl rfl ?_
    refine g_aload0 dX5_size_204 ?_
    refine f_getr (r := 1) rfl (by decide) rfl rfl fl_X5_10 dX5_size_205 ?_
    refine f_geti (J := 12) rfl (by decide) rfl rfl fl_X5_154 dX5_size_208 ?_
    rw [hc.f12]
    refine g_iretI rfl dX5_size_211 ?_
    exact Fw.ret rfl
  · refine g_aload0 dX5_size_0 ?_
    refine g_iload1 dX5_size_1 ?_
    refine g_iconst dX5_size_2 ?_
    refine g_bipush dX5_size_3 (by decide) ?_
    refine f_cV3d (needRange_ok ⟨by decide, by decide⟩ ⟨by decide, by decide⟩ ⟨by decide, by decide⟩ ⟨by decide, by decide⟩) rfl (by decide) rfl oY_X5_needRange oI_X5_needRange lk_X5_110 rfl dX5_size_5 rfl (Or.inl rfl) ?_
    refine g_iload1 dX5_size_8 ?_
    refine g_tabOut (tgt := 212) ⟨by omega, by omega⟩ (by omega) dX5_size_9 rfl ?_
    refine g_aload0 dX5_size_212 ?_
    refine f_geti (J := 4) rfl (by decide) rfl rfl fl_X5_28 dX5_size_213 ?_
    rw [h4]
    refine g_iretI rfl dX5_size_216 ?_
    exact Fw.ret rfl
theorem size_bad {B : Int} {s : Int → Int} (ho : SOK B s) (hc : CSt σ 1 s) {w : Int} (hx : R32 w) (h : ¬ (0 ≤ w ∧ w ≤ 15)) : Ft g zX5_size [.ref 0, iv w] σ l 0 := by
  refine Fn.of [some (.ref 0), some (iv w)] rfl (by decide) (Nat.le_of_ble_eq_true rfl) rfl ?_
  refine g_aload0 dX5_size_0 ?_
  refine g_iload1 dX5_size_1 ?_
  refine g_iconst dX5_size_2 ?_
  refine g_bipush dX5_size_3 (by decide) ?_
  refine f_cV3t (needRange_bad hx ⟨by decide, by decide⟩ ⟨by decide, by decide⟩ h) rfl (by decide) rfl oY_X5_needRange oI_X5_needRange lk_X5_110 rfl dX5_size_5 (by omega) (by omega) rfl (Or.inl rfl) rfl ?_
  exact Ft.ret
end C48
