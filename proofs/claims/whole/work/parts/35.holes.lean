/-! Way.reckonByHoles -/
section C35
variable {g : gT} {σ : sT} {l : Nat → Nat}
/-- the costs of the next note's plays in a row of all plays -/
def f0N (pl : Nat → Int) (ah : Nat → Int) : Nat → Int → Int
  | 0, _ => 1000000
  | n + 1, p => if p = pl n then ah n else f0N pl ah n p
def sps (m h : Int) (f : Int → Int) : Nat → Int → Int
  | 0 => f
  | k + 1 => spH m h ((3 ^ k : Nat) : Int) (sps m h f k)
def rg6 (f : Int → Int) : Prop := ∀ p, 0 ≤ f p ∧ f p ≤ 1000000
theorem f0N_rg {pl ah : Nat → Int} (n : Nat) (h : ∀ i, i < n → 0 ≤ ah i ∧ ah i ≤ 1000000) : rg6 (f0N pl ah n) := by
  induction n with
  | zero => intro p; exact ⟨by show (0 : Int) ≤ 1000000; decide, Int.le_refl _⟩
  | succ n ih =>
    intro p
    have h1 := ih (fun i hi => h i (by omega)) p
    have h2 := h n (by omega)
    unfold f0N
    split <;> omega
theorem spH_rg {m h Q : Int} {f : Int → Int} (hm : 0 ≤ m) (hh : 0 ≤ h) (hf : rg6 f) : rg6 (spH m h Q f) := by
  intro p
  have a0 := hf p
  have a1 := hf (p + Q)
  have a2 := hf (p + 2 * Q)
  have a3 := hf (p - Q)
  have a4 := hf (p - 2 * Q)
  unfold spH
  split
  · omega
  · split <;> omega
theorem sps_rg {m h : Int} {f : Int → Int} (hm : 0 ≤ m) (hh : 0 ≤ h) (hf : rg6 f) (k : Nat) : rg6 (sps m h f k) := by
  induction k with
  | zero => exact hf
  | succ k ih => exact spH_rg hm hh ih
theorem q3_split {p Q : Int} (hQ : 0 < Q) (hp : 0 ≤ p) : ∃ t d v : Int, 0 ≤ t ∧ 0 ≤ d ∧ d ≤ 2 ∧ 0 ≤ v ∧ v < Q ∧ p = Q * (3 * t) + d * Q + v := by
  refine ⟨p / Q / 3, p / Q % 3, p % Q, ?_, ?_, ?_, Int.emod_nonneg _ (by omega), Int.emod_lt_of_pos _ hQ, ?_⟩
  · have := Int.ediv_nonneg hp (show 0 ≤ Q by omega); omega
  · omega
  · omega
  · have e1 := Int.mul_ediv_add_emod p Q
    have e2 : p / Q = 3 * (p / Q / 3) + p / Q % 3 := by omega
    have e3 : Q * (p / Q) = Q * (3 * (p / Q / 3)) + p / Q % 3 * Q := by
      rw [show Q * (p / Q) = Q * (3 * (p / Q / 3) + p / Q % 3) from by rw [← e2], Int.mul_add, Int.mul_comm Q (p / Q % 3)]
    omega
theorem spH_congr {m h Q N M : Int} {f f' : Int → Int} (hQ : 0 < Q) (hNM : N = Q * (3 * M)) (hf : ∀ p, 0 ≤ p → p < N → f p = f' p) {p : Int} (h0 : 0 ≤ p) (hp : p < N) : spH m h Q f p = spH m h Q f' p := by
  obtain ⟨t, d, v, ht, hd0, hd2, hv0, hv1, e⟩ := q3_split hQ h0
  have hB0 : 0 ≤ Q * (3 * t) := Int.mul_nonneg (by omega) (by omega)
  have htM : t < M := by
    apply Int.not_le.mp
    intro h9
    have h8 := Int.mul_le_mul_of_nonneg_left (show 3 * M ≤ 3 * t by omega) (show 0 ≤ Q by omega)
    have h7 : 0 ≤ d * Q := Int.mul_nonneg hd0 (by omega)
    omega
  have hB3 : Q * (3 * t) + 3 * Q ≤ N := by
    have h9 := Int.mul_le_mul_of_nonneg_left (show 3 * t + 3 ≤ 3 * M by omega) (show 0 ≤ Q by omega)
    rw [Int.mul_add, ← hNM] at h9
    omega
  have b0 := hf (Q * (3 * t) + v) (by omega) (by omega)
  have b1 := hf (Q * (3 * t) + v + Q) (by omega) (by omega)
  have b2 := hf (Q * (3 * t) + v + 2 * Q) (by omega) (by omega)
  have hd : d = 0 ∨ d = 1 ∨ d = 2 := by omega
  rcases hd with rfl | rfl | rfl
  · have e2 : p = Q * (3 * t) + v := by omega
    rw [e2, spH_0 hQ ⟨hv0, hv1⟩, spH_0 hQ ⟨hv0, hv1⟩, b0, b1, b2]
  · have e2 : p = Q * (3 * t) + v + Q := by omega
    rw [e2, spH_1 hQ ⟨hv0, hv1⟩, spH_1 hQ ⟨hv0, hv1⟩, b0, b1, b2]
  · have e2 : p = Q * (3 * t) + v + 2 * Q := by omega
    rw [e2, spH_2 hQ ⟨hv0, hv1⟩, spH_2 hQ ⟨hv0, hv1⟩, b0, b1, b2]
theorem spB_congr {b c : Int} {f f' : Int → Int} (hf : ∀ p, 0 ≤ p → p < 2 * c → f p = f' p) {p : Int} (h0 : 0 ≤ p) (hp : p < 2 * c) : spB b c f p = spB b c f' p := by
  unfold spB
  by_cases h : p < c
  · rw [if_pos h, if_pos h, hf p h0 hp, hf (p + c) (by omega) (by omega)]
  · rw [if_neg h, if_neg h, hf p h0 hp, hf (p - c) (by omega) (by omega)]
theorem N_split {H k : Nat} (hk : k < H) : (2 * 3 ^ H : Nat) = 3 ^ k * (3 * (2 * 3 ^ (H - k - 1))) := by
  have e : 3 ^ H = 3 ^ k * (3 * 3 ^ (H - k - 1)) := by
    rw [← Nat.pow_succ', ← Nat.pow_add]
    congr 1
    omega
  rw [e]
  simp only [Nat.mul_left_comm, Nat.mul_comm, Nat.mul_assoc]
/-- what reckonByHoles holds all along: the same notes, the same plays, the rest untouched -/
theorem byHoles_tail {k n w o cA : Nat} {j t nt fA : Int} {N : Int} {plA : Nat → Int} {F : Int → Int} {l2 : Nat → Nat} {τ0 : sT} {Ψ : mO → sT → (Nat → Nat) → Prop} (hw : isWy w) (hs : isCh o) (hj : 0 ≤ j ∧ j < 39) (ht : R32 t) (hcA : ctF (τ0 (o + 1)) t = (cA : Int)) (hc4 : cA ≤ 4374) (hfA : atF τ0 l2 (o + 1) t = fA) (hfr0 : 0 ≤ fA ∧ fA ≤ 100000) (hrw : 0 ≤ τ0 (w + 3) j ∧ τ0 (w + 3) j + cA ≤ 1000000)
    (hplA : ∀ i : Nat, i < cA → fA + i < (ln l2 (o + 6) : Int) ∧ τ0 (o + 6) (fA + i) = plA i ∧ 0 ≤ plA i ∧ plA i < N) (hlA : τ0 (w + 3) j + cA ≤ (ln l2 (w + 4) : Int)) (hlN : N ≤ (ln l2 (w + 5) : Int)) (hF : ∀ p, 0 ≤ p → p < N → τ0 (w + 5) p = F p)
    (hΨ : ∀ τ : sT, (∀ a, a ≠ w + 4 → τ a = τ0 a) → (∀ i : Nat, i < cA → τ (w + 4) (τ0 (w + 3) j + i) = F (plA i)) → (∀ p, (p < τ0 (w + 3) j ∨ τ0 (w + 3) j + cA ≤ p) → τ (w + 4) p = τ0 (w + 4) p) → Ψ (.inl none) τ l2) {a7 a8 : Int} :
    FW g zX4_reckonByHoles k n Ψ 157 [some (.ref w), some (.ref 1), some (.ref o), some (iv j), some (iv t), some (iv nt), some (iv N), some (iv a7), some (iv a8), none] [] τ0 l2 := by
  have hwo := hw.2.1
  have hso := hs.2.1
  have loop : ∀ q, q ≤ cA → ∀ (i : Int) (τ : sT), i = (q : Int) → (∀ a, a ≠ w + 4 → τ a = τ0 a) → (∀ i : Nat, i < q → τ (w + 4) (τ0 (w + 3) j + i) = F (plA i)) → (∀ p, (p < τ0 (w + 3) j ∨ τ0 (w + 3) j + q ≤ p) → τ (w + 4) p = τ0 (w + 4) p) → FW g zX4_reckonByHoles k n Ψ 168 [some (.ref w), some (.ref 1), some (.ref o), some (iv j), some (iv t), some (iv nt), some (iv N), some (iv a7), some (iv (cA : Int)), some (iv i)] [] τ l2 := by
    refine loopUp cA (fun q hq ih i τ hi hfr hI hU => ?_)
    subst hi
    have e3 : τ (w + 3) = τ0 (w + 3) := hfr (w + 3) (by omega)
    have e5 : τ (w + 5) = τ0 (w + 5) := hfr (w + 5) (by omega)
    have e6 : τ (o + 6) = τ0 (o + 6) := hfr (o + 6) (by omega)
    have eA : atF τ l2 (o + 1) t = fA := by rw [← hfA]; unfold atF; rw [hfr (o + 1) (by omega)]
    refine g_iload9 dX4_reckonByHoles_168 ?_
    refine g_iload8 dX4_reckonByHoles_170 ?_
    refine g_icmp_ge ⟨by omega, by omega⟩ ⟨by omega, by omega⟩ (tgt := 222) dX4_reckonByHoles_172 rfl (fun h172 => ?_) (fun h172 => ?_)
    · refine g_return rfl dX4_reckonByHoles_222 ?_
      have eq : q = cA := by omega
      subst eq
      exact fn_ret (hΨ τ hfr hI hU)
    · refine g_aload0 dX4_reckonByHoles_175 ?_
      refine f_getr (r := w + 4) hw.1 (hw.lt 0 (by decide)) rfl rfl fl_X4_25 dX4_reckonByHoles_176 ?_
      refine g_aload0 dX4_reckonByHoles_179 ?_
      refine f_getr (r := w + 3) hw.1 (hw.lt 0 (by decide)) rfl rfl fl_X4_22 dX4_reckonByHoles_180 ?_
      refine g_iload3 dX4_reckonByHoles_183 ?_
      refine f_cS2w (atI hw.k3 (hw.lt 3 (by decide)) (by omega) (by rw [hw.n3]; omega)) oY_X5_at oT_X5_at lk_X4_58 rfl dX4_reckonByHoles_184 rfl (Or.inl rfl) ?_
      rw [e3]
      refine g_iload9 dX4_reckonByHoles_187 ?_
      refine g_iadd dX4_reckonByHoles_189 ?_
      refine g_aload0 dX4_reckonByHoles_190 ?_
      refine f_getr (r := w + 5) hw.1 (hw.lt 0 (by decide)) rfl rfl fl_X4_28 dX4_reckonByHoles_191 ?_
      refine g_aload2 dX4_reckonByHoles_194 ?_
      refine f_getr (r := o + 6) hs.1 (hs.lt 0 (by decide)) rfl rfl fl_X4_99 dX4_reckonByHoles_195 ?_
      refine g_aload2 dX4_reckonByHoles_198 ?_
      refine g_iload4 dX4_reckonByHoles_199 ?_
      refine f_cV1w (firstOfA_ok hs ht) hs.1 (hs.lt 0 (by decide)) rfl oY_X0_firstOf oI_X0_firstOf lk_X4_88 rfl dX4_reckonByHoles_201 rfl (Or.inl rfl) ?_
      rw [eA]
      refine g_iload9 dX4_reckonByHoles_204 ?_
      refine g_iadd dX4_reckonByHoles_206 ?_
      refine f_cS2w (atI hs.k6 (hs.lt 6 (by decide)) (by omega) (hplA q (by omega)).1) oY_X5_at oT_X5_at lk_X4_58 rfl dX4_reckonByHoles_207 rfl (Or.inl rfl) ?_
      rw [e6, (hplA q (by omega)).2.1]
      refine f_cS2w (atI hw.k5 (hw.lt 5 (by decide)) (hplA q (by omega)).2.2.1 (by have := (hplA q (by omega)).2.2.2; omega)) oY_X5_at oT_X5_at lk_X4_58 rfl dX4_reckonByHoles_210 rfl (Or.inl rfl) ?_
      rw [e5, hF _ (hplA q (by omega)).2.2.1 (hplA q (by omega)).2.2.2]
      refine f_cS3d (putI hw.k4 (hw.lt 4 (by decide)) (by omega) (by omega)) oY_X5_put oT_X5_put lk_X4_51 rfl dX4_reckonByHoles_213 rfl (Or.inl rfl) ?_
      refine g_iinc9 dX4_reckonByHoles_216 rfl (by decide) ?_
      refine g_goto (tgt := 168) dX4_reckonByHoles_219 rfl ?_
      refine ih (by omega) _ _ (by push_cast; omega) (fun a ha => by rw [up_n ha]; exact hfr a ha) (fun i hi => ?_) (fun p hp => ?_)
      · by_cases c0 : i = q
        · rw [c0, up_eq]
        · rw [up_ne (by omega)]
          exact hI i (by omega)
      · rw [up_ne (by omega)]
        exact hU p (by omega)
  refine g_aload2 dX4_reckonByHoles_157 ?_
  refine g_iload4 dX4_reckonByHoles_158 ?_
  refine f_cV1w (countOf_ok hs ht) hs.1 (hs.lt 0 (by decide)) rfl oY_X0_countOf oI_X0_countOf lk_X4_62 rfl dX4_reckonByHoles_160 rfl (Or.inl rfl) ?_
  rw [hcA]
  refine g_istore8 dX4_reckonByHoles_163 rfl (by decide) ?_
  refine g_iconst dX4_reckonByHoles_165 ?_
  refine g_istore9 dX4_reckonByHoles_166 rfl (by decide) ?_
  exact loop 0 (Nat.zero_le _) _ _ rfl (fun a ha => rfl) (fun i hi => by omega) (fun p hp => rfl)
end C35
