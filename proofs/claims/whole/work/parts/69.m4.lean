/-! The model: spreads -/
section C69
variable {g : gT} {σ : sT} {l : Nat → Nat}
def bsF (Q x : Int) : Int := x - (x / Q % 3) * Q
theorem bs_parts {Q x : Int} (hQ : 0 < Q) (hx : 0 ≤ x) : ∃ t d v : Int, x = Q * (3 * t) + d * Q + v ∧ (0 ≤ d ∧ d ≤ 2) ∧ (0 ≤ v ∧ v < Q) ∧ bsF Q x = Q * (3 * t) + v ∧ x / Q % 3 = d := by
  have e1 := Int.mul_ediv_add_emod x Q
  have r0 := Int.emod_nonneg x (show Q ≠ 0 by omega)
  have r1 := Int.emod_lt_of_pos x hQ
  have e2 : x / Q = 3 * (x / Q / 3) + x / Q % 3 := by omega
  have e3 : x = Q * (3 * (x / Q / 3)) + (x / Q % 3) * Q + x % Q := by
    have e4 : Q * (x / Q) = Q * (3 * (x / Q / 3)) + (x / Q % 3) * Q := by
      conv => lhs; rw [e2]
      rw [Int.mul_add, Int.mul_comm Q (x / Q % 3)]
    omega
  refine ⟨x / Q / 3, x / Q % 3, x % Q, e3, by omega, ⟨r0, r1⟩, ?_, rfl⟩
  unfold bsF
  omega
theorem bs_dig {Q x : Int} (hQ : 0 < Q) (hx : 0 ≤ x) : 0 ≤ bsF Q x ∧ bsF Q x / Q % 3 = 0 ∧ bsF Q x ≤ x := by
  obtain ⟨t, d, v, e1, hd, hv, e2, e3⟩ := bs_parts hQ hx
  have h1 := dgQ (t := t) (d := 0) hQ hv (by omega)
  rw [Int.zero_mul, Int.add_zero] at h1
  have h2 : 0 ≤ d * Q := Int.mul_nonneg hd.1 (by omega)
  have h4 : 0 ≤ t := by
    have h5 : 0 ≤ x / Q := Int.ediv_nonneg hx (by omega)
    have h6 := (parts_of (t := t) (d := d) (v := v) hQ hv hd).1
    rw [← e1] at h6
    omega
  have h3 : 0 ≤ Q * (3 * t) := Int.mul_nonneg (by omega) (by omega)
  rw [e2]
  exact ⟨by omega, h1, by omega⟩
theorem bs_id {Q x : Int} (h : x / Q % 3 = 0) : bsF Q x = x := by unfold bsF; rw [h]; omega
/-- the three of one base -/
theorem bs_three {Q x q : Int} (hQ : 0 < Q) (hx : 0 ≤ x) (h : bsF Q x = q) : x = q ∨ x = q + Q ∨ x = q + 2 * Q := by
  obtain ⟨t, d, v, e1, hd, hv, e2, e3⟩ := bs_parts hQ hx
  have h1 : d = 0 ∨ d = 1 ∨ d = 2 := by omega
  rcases h1 with rfl | rfl | rfl
  · exact Or.inl (by omega)
  · exact Or.inr (Or.inl (by omega))
  · exact Or.inr (Or.inr (by omega))
theorem bs_add {Q q : Int} (hQ : 0 < Q) (hq : 0 ≤ q) (h : q / Q % 3 = 0) : bsF Q (q + Q) = q ∧ bsF Q (q + 2 * Q) = q := by
  obtain ⟨t, d, v, e1, hd, hv, e2, e3⟩ := bs_parts hQ hq
  rw [h] at e3
  subst e3
  rw [Int.zero_mul, Int.add_zero] at e1
  have h1 := dgQ (t := t) (d := 1) hQ hv (by omega)
  have h2 := dgQ (t := t) (d := 2) hQ hv (by omega)
  unfold bsF
  rw [show q + Q = Q * (3 * t) + 1 * Q + v from by omega, show q + 2 * Q = Q * (3 * t) + 2 * Q + v from by omega, h1, h2]
  exact ⟨by omega, by omega⟩
theorem spH_three {m h Q q : Int} {F : Int → Int} (hQ : 0 < Q) (hq : 0 ≤ q) (hd : q / Q % 3 = 0) :
    spH m h Q F q = min (F q) (min (F (q + Q) + h) (F (q + 2 * Q) + m)) ∧ spH m h Q F (q + Q) = min (F (q + Q)) (min (F q + h) (F (q + 2 * Q) + h)) ∧ spH m h Q F (q + 2 * Q) = min (F (q + 2 * Q)) (min (F q + m) (F (q + Q) + h)) := by
  obtain ⟨t, d, v, e1, hd2, hv, e2, e3⟩ := bs_parts hQ hq
  rw [hd] at e3
  subst e3
  rw [Int.zero_mul, Int.add_zero] at e1
  rw [e1, spH_0 hQ hv, spH_1 hQ hv, spH_2 hQ hv]
  exact ⟨rfl, by omega, by omega⟩
theorem spreads_m {B : Int} {s : Int → Int} (ho : SOK B s) (hs : σ 93 = s) {f : Int → Int} (hfr : rg6 f) (hf : ∀ p, 0 ≤ p → p < (2 * ((3 ^ wH s : Nat) : Int)) → σ 103 p = f p) : Fn g zX6_spreads 0 0 [.ref 92, iv (2 * ((3 ^ wH s : Nat) : Int))] σ l (fun o τ l' => o = .inl none ∧ l' = l ∧ (∀ a, a ≠ 103 → τ a = σ a) ∧ ∀ p, 0 ≤ p → p < (2 * ((3 ^ wH s : Nat) : Int)) → τ 103 p = spB (s 8) ((3 ^ wH s : Nat) : Int) (sps (s 6) (s 7) f (wH s)) p) := by
  have h7 := ho.h7
  have hI := ho.hI
  have hp3 := p3_le h7
  have hp0 := p3_pos (wH s)
  have hmv := ho.move
  have hhf := ho.half
  have hbr := ho.breath
  have hG := fun k => sps_rg (m := s 6) (h := s 7) (by omega) (by omega) hfr k
  refine Fn.of [some (.ref 92), some (iv (2 * ((3 ^ wH s : Nat) : Int))), none, none, none, none, none, none] rfl (by decide) (Nat.le_of_ble_eq_true rfl) rfl ?_
  have loopB : ∀ q : Nat, q ≤ 3 ^ wH s → ∀ (i : Int) (u4 u5 u6 u7 : Option Value) (τ : sT), i = (q : Int) → (∀ a, a ≠ 103 → τ a = σ a) → (∀ p, 0 ≤ p → p < (2 * ((3 ^ wH s : Nat) : Int)) → τ 103 p = if p < (q : Int) ∨ (((3 ^ wH s : Nat) : Int) ≤ p ∧ p < ((3 ^ wH s : Nat) : Int) + (q : Int)) then spB (s 8) ((3 ^ wH s : Nat) : Int) (sps (s 6) (s 7) f (wH s)) p else (sps (s 6) (s 7) f (wH s)) p) → FW g zX6_spreads 0 0 (fun o τ l' => o = .inl none ∧ l' = l ∧ (∀ a, a ≠ 103 → τ a = σ a) ∧ ∀ p, 0 ≤ p → p < (2 * ((3 ^ wH s : Nat) : Int)) → τ 103 p = spB (s 8) ((3 ^ wH s : Nat) : Int) (sps (s 6) (s 7) f (wH s)) p) 188 [some (.ref 92), some (iv (2 * ((3 ^ wH s : Nat) : Int))), some (iv ((3 ^ wH s : Nat) : Int)), some (iv i), u4, u5, u6, u7] [] τ l := by
    refine loopUp _ (fun q hq2 ih i u4 u5 u6 u7 τ hi hfr2 hv => ?_)
    subst hi
    have hsτ : τ 93 = s := (hfr2 93 (by decide)).trans hs
    refine g_iload3 dX6_spreads_188 ?_
    refine g_iload2 dX6_spreads_189 ?_
    refine g_icmp_ge ⟨by omega, by omega⟩ ⟨by omega, by omega⟩ (tgt := 261) dX6_spreads_190 rfl (fun h190 => ?_) (fun h190 => ?_)
    · refine g_return rfl dX6_spreads_261 ?_
      exact fn_ret ⟨rfl, rfl, hfr2, fun p a b => by rw [hv p a b, if_pos (by omega)]⟩
    · have hA := hG (wH s) (q : Int)
      have hB := hG (wH s) ((q : Int) + ((3 ^ wH s : Nat) : Int))
      have e1 := hv (q : Int) (by omega) (by omega)
      rw [if_neg (by omega)] at e1
      have e2 := hv ((q : Int) + ((3 ^ wH s : Nat) : Int)) (by omega) (by omega)
      rw [if_neg (by omega)] at e2
      refine g_aload0 dX6_spreads_193 ?_
      refine f_getr (r := 103) rfl (by decide) rfl rfl fl_X6_43 dX6_spreads_194 ?_
      refine g_iload3 dX6_spreads_197 ?_
      refine f_iald rfl (by decide) ⟨by omega, by show _ < ((4374 : Nat) : Int); omega⟩ dX6_spreads_198 ?_
      rw [e1]
      refine g_istore4 dX6_spreads_199 rfl (by decide) ?_
      refine g_aload0 dX6_spreads_201 ?_
      refine f_getr (r := 103) rfl (by decide) rfl rfl fl_X6_43 dX6_spreads_202 ?_
      refine g_iload3 dX6_spreads_205 ?_
      refine g_iload2 dX6_spreads_206 ?_
      refine g_iadd dX6_spreads_207 ?_
      refine f_iald rfl (by decide) ⟨by omega, by show _ < ((4374 : Nat) : Int); omega⟩ dX6_spreads_208 ?_
      rw [e2]
      refine g_istore5 dX6_spreads_209 rfl (by decide) ?_
      refine g_aload0 dX6_spreads_211 ?_
      refine f_getr (r := 103) rfl (by decide) rfl rfl fl_X6_43 dX6_spreads_212 ?_
      refine g_iload3 dX6_spreads_215 ?_
      refine g_iload4 dX6_spreads_216 ?_
      refine g_iload5 dX6_spreads_218 ?_
      refine g_aload0 dX6_spreads_220 ?_
      refine f_getr (r := 93) rfl (by decide) rfl rfl fl_X6_7 dX6_spreads_221 ?_
      refine g_bipush dX6_spreads_224 (by decide) ?_
      refine f_iald rfl (by decide) ⟨by omega, by show _ < ((67 : Nat) : Int); omega⟩ dX6_spreads_226 ?_
      rw [hsτ]
      refine g_iadd dX6_spreads_227 ?_
      refine g_mmin ⟨by omega, by omega⟩ ⟨by omega, by omega⟩ ma_X6_146 ⟨by decide, Nat.le_of_ble_eq_true rfl⟩ dX6_spreads_228 ?_
      refine f_iast rfl (by decide) ⟨by omega, by show _ < ((4374 : Nat) : Int); omega⟩ dX6_spreads_231 ?_
      refine g_aload0 dX6_spreads_232 ?_
      refine f_getr (r := 103) rfl (by decide) rfl rfl fl_X6_43 dX6_spreads_233 ?_
      refine g_iload3 dX6_spreads_236 ?_
      refine g_iload2 dX6_spreads_237 ?_
      refine g_iadd dX6_spreads_238 ?_
      refine g_iload5 dX6_spreads_239 ?_
      refine g_iload4 dX6_spreads_241 ?_
      refine g_aload0 dX6_spreads_243 ?_
      refine f_getr (r := 93) rfl (by decide) rfl rfl fl_X6_7 dX6_spreads_244 ?_
      refine g_bipush dX6_spreads_247 (by decide) ?_
      refine f_iald rfl (by decide) ⟨by omega, by show _ < ((67 : Nat) : Int); omega⟩ dX6_spreads_249 ?_
      rw [up_n (by decide), hsτ]
      refine g_iadd dX6_spreads_250 ?_
      refine g_mmin ⟨by omega, by omega⟩ ⟨by omega, by omega⟩ ma_X6_146 ⟨by decide, Nat.le_of_ble_eq_true rfl⟩ dX6_spreads_251 ?_
      refine f_iast rfl (by decide) ⟨by omega, by show _ < ((4374 : Nat) : Int); omega⟩ dX6_spreads_254 ?_
      refine g_iinc3 dX6_spreads_255 rfl (by decide) ?_
      refine g_goto (tgt := 188) dX6_spreads_258 rfl ?_
      refine ih (by omega) _ _ _ _ _ _ (by push_cast; omega) (fun a ha => by rw [up_n ha, up_n ha]; exact hfr2 a ha) (fun p a b => ?_)
      by_cases e9 : p = (q : Int) + ((3 ^ wH s : Nat) : Int)
      · rw [e9, up_eq, if_pos (by omega)]
        unfold spB
        rw [if_neg (by omega), show (q : Int) + ((3 ^ wH s : Nat) : Int) - ((3 ^ wH s : Nat) : Int) = (q : Int) from by omega]
      · rw [up_ne (fun z => e9 z.2)]
        by_cases e8 : p = (q : Int)
        · rw [e8, up_eq, if_pos (by omega)]
          unfold spB
          rw [if_pos (by omega)]
        · rw [up_ne (fun z => e8 z.2), hv p a b]
          by_cases c9 : p < (q : Int) ∨ (((3 ^ wH s : Nat) : Int) ≤ p ∧ p < ((3 ^ wH s : Nat) : Int) + (q : Int))
          · rw [if_pos c9, if_pos (by omega)]
          · rw [if_neg c9, if_neg (by omega)]
  have loopH : ∀ k : Nat, k ≤ wH s → ∀ (i : Int) (u4 u5 u6 u7 : Option Value) (τ : sT), i = (k : Int) → (∀ a, a ≠ 103 → τ a = σ a) → (∀ p, 0 ≤ p → p < (2 * ((3 ^ wH s : Nat) : Int)) → τ 103 p = (sps (s 6) (s 7) f k) p) → FW g zX6_spreads 0 0 (fun o τ l' => o = .inl none ∧ l' = l ∧ (∀ a, a ≠ 103 → τ a = σ a) ∧ ∀ p, 0 ≤ p → p < (2 * ((3 ^ wH s : Nat) : Int)) → τ 103 p = spB (s 8) ((3 ^ wH s : Nat) : Int) (sps (s 6) (s 7) f (wH s)) p) 4 [some (.ref 92), some (iv (2 * ((3 ^ wH s : Nat) : Int))), some (iv ((3 ^ k : Nat) : Int)), some (iv i), u4, u5, u6, u7] [] τ l := by
    refine loopUp _ (fun k hk2 ih i u4 u5 u6 u7 τ hi hfr2 hv => ?_)
    subst hi
    have hsτ : τ 93 = s := (hfr2 93 (by decide)).trans hs
    have hQ0 := p3_pos k
    have hQ1 : ((3 ^ k : Nat) : Int) ≤ ((3 ^ wH s : Nat) : Int) := Int.ofNat_le.mpr (Nat.pow_le_pow_right (by decide) hk2)
    refine g_iload3 dX6_spreads_4 ?_
    refine g_aload0 dX6_spreads_5 ?_
    refine f_getr (r := 93) rfl (by decide) rfl rfl fl_X6_7 dX6_spreads_6 ?_
    refine g_iconst dX6_spreads_9 ?_
    refine f_iald rfl (by decide) ⟨by omega, by show _ < ((67 : Nat) : Int); omega⟩ dX6_spreads_10 ?_
    rw [hsτ]
    refine g_icmp_ge ⟨by omega, by omega⟩ ⟨by omega, by omega⟩ (tgt := 186) dX6_spreads_11 rfl (fun h11 => ?_) (fun h11 => ?_)
    · have ek : k = wH s := by omega
      subst ek
      refine g_iconst dX6_spreads_186 ?_
      refine g_istore3 dX6_spreads_187 rfl (by decide) ?_
      exact loopB 0 (Nat.zero_le _) _ _ _ _ _ _ rfl hfr2 (fun p a b => by rw [if_neg (by omega)]; exact hv p a b)
    · have hkH : k < wH s := by omega
      obtain ⟨M, hM⟩ := p3_cut hkH
      have loopP : ∀ q : Nat, (q : Int) ≤ (2 * ((3 ^ wH s : Nat) : Int)) → ∀ (i4 : Int) (u5 u6 u7 : Option Value) (ρ : sT), i4 = (q : Int) → (∀ a, a ≠ 103 → ρ a = σ a) → (∀ p, 0 ≤ p → p < (2 * ((3 ^ wH s : Nat) : Int)) → ρ 103 p = if bsF ((3 ^ k : Nat) : Int) p < (q : Int) then spH (s 6) (s 7) ((3 ^ k : Nat) : Int) (sps (s 6) (s 7) f k) p else (sps (s 6) (s 7) f k) p) → FW g zX6_spreads 0 0 (fun o τ l' => o = .inl none ∧ l' = l ∧ (∀ a, a ≠ 103 → τ a = σ a) ∧ ∀ p, 0 ≤ p → p < (2 * ((3 ^ wH s : Nat) : Int)) → τ 103 p = spB (s 8) ((3 ^ wH s : Nat) : Int) (sps (s 6) (s 7) f (wH s)) p) 17 [some (.ref 92), some (iv (2 * ((3 ^ wH s : Nat) : Int))), some (iv ((3 ^ k : Nat) : Int)), some (iv (k : Int)), some (iv i4), u5, u6, u7] [] ρ l := by
        intro q0 hq0
        refine loopUp (Q := fun q : Nat => ∀ (i4 : Int) (u5 u6 u7 : Option Value) (ρ : sT), i4 = (q : Int) → (∀ a, a ≠ 103 → ρ a = σ a) → (∀ p, 0 ≤ p → p < (2 * ((3 ^ wH s : Nat) : Int)) → ρ 103 p = if bsF ((3 ^ k : Nat) : Int) p < (q : Int) then spH (s 6) (s 7) ((3 ^ k : Nat) : Int) (sps (s 6) (s 7) f k) p else (sps (s 6) (s 7) f k) p) → FW g zX6_spreads 0 0 (fun o τ l' => o = .inl none ∧ l' = l ∧ (∀ a, a ≠ 103 → τ a = σ a) ∧ ∀ p, 0 ≤ p → p < (2 * ((3 ^ wH s : Nat) : Int)) → τ 103 p = spB (s 8) ((3 ^ wH s : Nat) : Int) (sps (s 6) (s 7) f (wH s)) p) 17 [some (.ref 92), some (iv (2 * ((3 ^ wH s : Nat) : Int))), some (iv ((3 ^ k : Nat) : Int)), some (iv (k : Int)), some (iv i4), u5, u6, u7] [] ρ l) (2 * 3 ^ wH s) (fun q hq2 ih2 i4 u5 u6 u7 ρ hi4 hf3 hv3 => ?_) q0 (by omega)
        subst hi4
        have hNe : ((2 * 3 ^ wH s : Nat) : Int) = (2 * ((3 ^ wH s : Nat) : Int)) := by push_cast; rfl
        have hsρ : ρ 93 = s := (hf3 93 (by decide)).trans hs
        refine g_iload4 dX6_spreads_17 ?_
        refine g_iload1 dX6_spreads_19 ?_
        refine g_icmp_ge ⟨by omega, by omega⟩ ⟨by omega, by omega⟩ (tgt := 176) dX6_spreads_20 rfl (fun h20 => ?_) (fun h20 => ?_)
        · refine g_iload2 dX6_spreads_176 ?_
          refine g_iconst dX6_spreads_177 ?_
          refine g_imul dX6_spreads_178 ?_
          refine g_istore2 dX6_spreads_179 rfl (by decide) ?_
          refine g_iinc3 dX6_spreads_180 rfl (by decide) ?_
          refine g_goto (tgt := 4) dX6_spreads_183 rfl ?_
          rw [show ((3 ^ k : Nat) : Int) * 3 = ((3 ^ (k + 1) : Nat) : Int) from by rw [Nat.pow_succ]; push_cast; rfl]
          refine ih hkH _ _ _ _ _ _ (by push_cast; omega) hf3 (fun p a b => ?_)
          have hbp := bs_dig hQ0 a
          rw [hv3 p a b, if_pos (by omega)]
          rfl
        · have hqQ : 0 ≤ (q : Int) / ((3 ^ k : Nat) : Int) := Int.ediv_nonneg (by omega) (by omega)
          have hqQ2 : (q : Int) / ((3 ^ k : Nat) : Int) ≤ (q : Int) := Int.ediv_le_self _ (by omega)
          refine g_iload4 dX6_spreads_23 ?_
          refine g_iload2 dX6_spreads_25 ?_
          refine g_idiv ⟨by omega, by omega⟩ ⟨by omega, by omega⟩ dX6_spreads_26 ?_
          refine g_iconst dX6_spreads_27 ?_
          refine g_irem ⟨by omega, by omega⟩ ⟨by decide, by decide⟩ dX6_spreads_28 ?_
          refine g_if_eq ⟨by omega, by omega⟩ (tgt := 35) dX6_spreads_29 rfl (fun h29 => ?_) (fun h29 => ?_)
          · have hd0 : (q : Int) / ((3 ^ k : Nat) : Int) % 3 = 0 := h29
            have hb2 := cov_rng (c := ((3 ^ k : Nat) : Int)) (M := M) (p := (q : Int)) (w := 2) hQ0 (by omega) (by rw [← hM]; omega) ⟨by decide, by decide⟩
            rw [hd0, ← hM, show (2 : Int) - 0 = 2 from rfl] at hb2
            have hba := bs_add hQ0 (show (0 : Int) ≤ (q : Int) by omega) hd0
            have hbi := bs_id hd0
            have hsp := spH_three (m := s 6) (h := s 7) (F := (sps (s 6) (s 7) f k)) hQ0 (show (0 : Int) ≤ (q : Int) by omega) hd0
            have hA := hG k (q : Int)
            have hB := hG k ((q : Int) + ((3 ^ k : Nat) : Int))
            have hC := hG k ((q : Int) + 2 * ((3 ^ k : Nat) : Int))
            have e1 := hv3 (q : Int) (by omega) (by omega)
            rw [hbi, if_neg (by omega)] at e1
            have e2 := hv3 ((q : Int) + ((3 ^ k : Nat) : Int)) (by omega) (by omega)
            rw [hba.1, if_neg (by omega)] at e2
            have e3 := hv3 ((q : Int) + 2 * ((3 ^ k : Nat) : Int)) (by omega) (by omega)
            rw [hba.2, if_neg (by omega)] at e3
            refine g_aload0 dX6_spreads_35 ?_
            refine f_getr (r := 103) rfl (by decide) rfl rfl fl_X6_43 dX6_spreads_36 ?_
            refine g_iload4 dX6_spreads_39 ?_
            refine f_iald rfl (by decide) ⟨by omega, by show _ < ((4374 : Nat) : Int); omega⟩ dX6_spreads_41 ?_
            rw [e1]
            refine g_istore5 dX6_spreads_42 rfl (by decide) ?_
            refine g_aload0 dX6_spreads_44 ?_
            refine f_getr (r := 103) rfl (by decide) rfl rfl fl_X6_43 dX6_spreads_45 ?_
            refine g_iload4 dX6_spreads_48 ?_
            refine g_iload2 dX6_spreads_50 ?_
            refine g_iadd dX6_spreads_51 ?_
            refine f_iald rfl (by decide) ⟨by omega, by show _ < ((4374 : Nat) : Int); omega⟩ dX6_spreads_52 ?_
            rw [e2]
            refine g_istore6 dX6_spreads_53 rfl (by decide) ?_
            refine g_aload0 dX6_spreads_55 ?_
            refine f_getr (r := 103) rfl (by decide) rfl rfl fl_X6_43 dX6_spreads_56 ?_
            refine g_iload4 dX6_spreads_59 ?_
            refine g_iconst dX6_spreads_61 ?_
            refine g_iload2 dX6_spreads_62 ?_
            refine g_imul dX6_spreads_63 ?_
            refine g_iadd dX6_spreads_64 ?_
            refine f_iald rfl (by decide) ⟨by omega, by show _ < ((4374 : Nat) : Int); omega⟩ dX6_spreads_65 ?_
            rw [e3]
            refine g_istore7 dX6_spreads_66 rfl (by decide) ?_
            refine g_aload0 dX6_spreads_68 ?_
            refine f_getr (r := 103) rfl (by decide) rfl rfl fl_X6_43 dX6_spreads_69 ?_
            refine g_iload4 dX6_spreads_72 ?_
            refine g_iload5 dX6_spreads_74 ?_
            refine g_iload6 dX6_spreads_76 ?_
            refine g_aload0 dX6_spreads_78 ?_
            refine f_getr (r := 93) rfl (by decide) rfl rfl fl_X6_7 dX6_spreads_79 ?_
            refine g_bipush dX6_spreads_82 (by decide) ?_
            refine f_iald rfl (by decide) ⟨by omega, by show _ < ((67 : Nat) : Int); omega⟩ dX6_spreads_84 ?_
            rw [hsρ]
            refine g_iadd dX6_spreads_85 ?_
            refine g_iload7 dX6_spreads_86 ?_
            refine g_aload0 dX6_spreads_88 ?_
            refine f_getr (r := 93) rfl (by decide) rfl rfl fl_X6_7 dX6_spreads_89 ?_
            refine g_bipush dX6_spreads_92 (by decide) ?_
            refine f_iald rfl (by decide) ⟨by omega, by show _ < ((67 : Nat) : Int); omega⟩ dX6_spreads_94 ?_
            rw [hsρ]
            refine g_iadd dX6_spreads_95 ?_
            refine f_cS3w (least_m ⟨by omega, by omega⟩ ⟨by omega, by omega⟩ ⟨by omega, by omega⟩) oY_X6_least oT_X6_least lk_X6_148 rfl dX6_spreads_96 rfl (Or.inl rfl) ?_
            refine f_iast rfl (by decide) ⟨by omega, by show _ < ((4374 : Nat) : Int); omega⟩ dX6_spreads_99 ?_
            refine g_aload0 dX6_spreads_100 ?_
            refine f_getr (r := 103) rfl (by decide) rfl rfl fl_X6_43 dX6_spreads_101 ?_
            refine g_iload4 dX6_spreads_104 ?_
            refine g_iload2 dX6_spreads_106 ?_
            refine g_iadd dX6_spreads_107 ?_
            refine g_iload6 dX6_spreads_108 ?_
            refine g_iload5 dX6_spreads_110 ?_
            refine g_aload0 dX6_spreads_112 ?_
            refine f_getr (r := 93) rfl (by decide) rfl rfl fl_X6_7 dX6_spreads_113 ?_
            refine g_bipush dX6_spreads_116 (by decide) ?_
            refine f_iald rfl (by decide) ⟨by omega, by show _ < ((67 : Nat) : Int); omega⟩ dX6_spreads_118 ?_
            rw [up_n (by decide), hsρ]
            refine g_iadd dX6_spreads_119 ?_
            refine g_iload7 dX6_spreads_120 ?_
            refine g_aload0 dX6_spreads_122 ?_
            refine f_getr (r := 93) rfl (by decide) rfl rfl fl_X6_7 dX6_spreads_123 ?_
            refine g_bipush dX6_spreads_126 (by decide) ?_
            refine f_iald rfl (by decide) ⟨by omega, by show _ < ((67 : Nat) : Int); omega⟩ dX6_spreads_128 ?_
            rw [up_n (by decide), hsρ]
            refine g_iadd dX6_spreads_129 ?_
            refine f_cS3w (least_m ⟨by omega, by omega⟩ ⟨by omega, by omega⟩ ⟨by omega, by omega⟩) oY_X6_least oT_X6_least lk_X6_148 rfl dX6_spreads_130 rfl (Or.inl rfl) ?_
            refine f_iast rfl (by decide) ⟨by omega, by show _ < ((4374 : Nat) : Int); omega⟩ dX6_spreads_133 ?_
            refine g_aload0 dX6_spreads_134 ?_
            refine f_getr (r := 103) rfl (by decide) rfl rfl fl_X6_43 dX6_spreads_135 ?_
            refine g_iload4 dX6_spreads_138 ?_
            refine g_iconst dX6_spreads_140 ?_
            refine g_iload2 dX6_spreads_141 ?_
            refine g_imul dX6_spreads_142 ?_
            refine g_iadd dX6_spreads_143 ?_
            refine g_iload7 dX6_spreads_144 ?_
            refine g_iload5 dX6_spreads_146 ?_
            refine g_aload0 dX6_spreads_148 ?_
            refine f_getr (r := 93) rfl (by decide) rfl rfl fl_X6_7 dX6_spreads_149 ?_
            refine g_bipush dX6_spreads_152 (by decide) ?_
            refine f_iald rfl (by decide) ⟨by omega, by show _ < ((67 : Nat) : Int); omega⟩ dX6_spreads_154 ?_
            rw [up_n (by decide), up_n (by decide), hsρ]
            refine g_iadd dX6_spreads_155 ?_
            refine g_iload6 dX6_spreads_156 ?_
            refine g_aload0 dX6_spreads_158 ?_
            refine f_getr (r := 93) rfl (by decide) rfl rfl fl_X6_7 dX6_spreads_159 ?_
            refine g_bipush dX6_spreads_162 (by decide) ?_
            refine f_iald rfl (by decide) ⟨by omega, by show _ < ((67 : Nat) : Int); omega⟩ dX6_spreads_164 ?_
            rw [up_n (by decide), up_n (by decide), hsρ]
            refine g_iadd dX6_spreads_165 ?_
            refine f_cS3w (least_m ⟨by omega, by omega⟩ ⟨by omega, by omega⟩ ⟨by omega, by omega⟩) oY_X6_least oT_X6_least lk_X6_148 rfl dX6_spreads_166 rfl (Or.inl rfl) ?_
            refine f_iast rfl (by decide) ⟨by omega, by show _ < ((4374 : Nat) : Int); omega⟩ dX6_spreads_169 ?_
            refine g_iinc4 dX6_spreads_170 rfl (by decide) ?_
            refine g_goto (tgt := 17) dX6_spreads_173 rfl ?_
            first
              | refine ih2 (by omega) _ _ _ _ _ (by push_cast; omega) (fun a ha => by rw [up_n ha, up_n ha, up_n ha]; exact hf3 a ha) (fun p a b => ?_)
                have hbp := bs_dig hQ0 a
                by_cases x2 : p = (q : Int) + 2 * ((3 ^ k : Nat) : Int)
                · rw [x2, up_eq, hba.2, if_pos (by omega), hsp.2.2]
                · rw [up_ne (fun z => x2 z.2)]
                  by_cases x1 : p = (q : Int) + ((3 ^ k : Nat) : Int)
                  · rw [x1, up_eq, hba.1, if_pos (by omega), hsp.2.1]
                  · rw [up_ne (fun z => x1 z.2)]
                    by_cases x0 : p = (q : Int)
                    · rw [x0, up_eq, hbi, if_pos (by omega), hsp.1]
                    · rw [up_ne (fun z => x0 z.2), hv3 p a b]
                      have hne : bsF ((3 ^ k : Nat) : Int) p ≠ (q : Int) := fun z => by
                        rcases bs_three hQ0 a z with y | y | y
                        · exact x0 y
                        · exact x1 y
                        · exact x2 y
                      by_cases c9 : bsF ((3 ^ k : Nat) : Int) p < (q : Int)
                      · rw [if_pos c9, if_pos (by omega)]
                      · rw [if_neg c9, if_neg (by omega)]
              | refine ih2 (by omega) _ _ _ _ _ (by push_cast; omega) hf3 (fun p a b => ?_)
                rw [hv3 p a b]
                have hbp := bs_dig hQ0 a
                have hne : bsF ((3 ^ k : Nat) : Int) p ≠ (q : Int) := fun z => h29 (by rw [← z]; exact hbp.2.1)
                by_cases c9 : bsF ((3 ^ k : Nat) : Int) p < (q : Int)
                · rw [if_pos c9, if_pos (by omega)]
                · rw [if_neg c9, if_neg (by omega)]
          · refine g_goto (tgt := 170) dX6_spreads_32 rfl ?_
            refine g_iinc4 dX6_spreads_170 rfl (by decide) ?_
            refine g_goto (tgt := 17) dX6_spreads_173 rfl ?_
            first
              | refine ih2 (by omega) _ _ _ _ _ (by push_cast; omega) (fun a ha => by rw [up_n ha, up_n ha, up_n ha]; exact hf3 a ha) (fun p a b => ?_)
                have hbp := bs_dig hQ0 a
                by_cases x2 : p = (q : Int) + 2 * ((3 ^ k : Nat) : Int)
                · rw [x2, up_eq, hba.2, if_pos (by omega), hsp.2.2]
                · rw [up_ne (fun z => x2 z.2)]
                  by_cases x1 : p = (q : Int) + ((3 ^ k : Nat) : Int)
                  · rw [x1, up_eq, hba.1, if_pos (by omega), hsp.2.1]
                  · rw [up_ne (fun z => x1 z.2)]
                    by_cases x0 : p = (q : Int)
                    · rw [x0, up_eq, hbi, if_pos (by omega), hsp.1]
                    · rw [up_ne (fun z => x0 z.2), hv3 p a b]
                      have hne : bsF ((3 ^ k : Nat) : Int) p ≠ (q : Int) := fun z => by
                        rcases bs_three hQ0 a z with y | y | y
                        · exact x0 y
                        · exact x1 y
                        · exact x2 y
                      by_cases c9 : bsF ((3 ^ k : Nat) : Int) p < (q : Int)
                      · rw [if_pos c9, if_pos (by omega)]
                      · rw [if_neg c9, if_neg (by omega)]
              | refine ih2 (by omega) _ _ _ _ _ (by push_cast; omega) hf3 (fun p a b => ?_)
                rw [hv3 p a b]
                have hbp := bs_dig hQ0 a
                have hne : bsF ((3 ^ k : Nat) : Int) p ≠ (q : Int) := fun z => h29 (by rw [← z]; exact hbp.2.1)
                by_cases c9 : bsF ((3 ^ k : Nat) : Int) p < (q : Int)
                · rw [if_pos c9, if_pos (by omega)]
                · rw [if_neg c9, if_neg (by omega)]
      refine g_iconst dX6_spreads_14 ?_
      refine g_istore4 dX6_spreads_15 rfl (by decide) ?_
      refine loopP 0 (by omega) _ _ _ _ _ rfl hfr2 (fun p a b => ?_)
      have hbp := bs_dig hQ0 a
      rw [if_neg (by omega)]
      exact hv p a b
  refine g_iconst dX6_spreads_0 ?_
  refine g_istore2 dX6_spreads_1 rfl (by decide) ?_
  refine g_iconst dX6_spreads_2 ?_
  refine g_istore3 dX6_spreads_3 rfl (by decide) ?_
  exact loopH 0 (Nat.zero_le _) _ _ _ _ _ _ rfl (fun _ _ => rfl) hf
end C69
