/-! The model: its smallest methods -/
section C66
variable {g : gT} {σ : sT} {l : Nat → Nat}
theorem isIn_ok {x a b : Int} (hx : R64 x) (ha : R64 a) (hb : R64 b) : Fw g zX6_isIn [lg x, lg a, lg b] σ l (bv (a ≤ x ∧ x ≤ b)) := by
  refine Fn.of [some (lg x), none, some (lg a), none, some (lg b), none] rfl (by decide) (Nat.le_of_ble_eq_true rfl) rfl ?_
  refine g_lload0 dX6_isIn_0 ?_
  refine g_lload2 dX6_isIn_1 ?_
  refine g_lcmp hx ha dX6_isIn_2 ?_
  refine g_if_lt_sg (tgt := 17) dX6_isIn_3 rfl (fun h3 => ?_) (fun h3 => ?_)
  · refine g_iconst dX6_isIn_17 ?_
    refine g_iretB (Or.inl rfl) rfl dX6_isIn_18 ?_
    first
      | exact Fw.ret (by rw [if_pos ⟨by omega, by omega⟩])
      | exact Fw.ret (by rw [if_neg (fun z => by omega)])
  · refine g_lload0 dX6_isIn_6 ?_
    refine g_lload4 dX6_isIn_7 ?_
    refine g_lcmp hx hb dX6_isIn_9 ?_
    refine g_if_gt_sg (tgt := 17) dX6_isIn_10 rfl (fun h10 => ?_) (fun h10 => ?_)
    · refine g_iconst dX6_isIn_17 ?_
      refine g_iretB (Or.inl rfl) rfl dX6_isIn_18 ?_
      first
        | exact Fw.ret (by rw [if_pos ⟨by omega, by omega⟩])
        | exact Fw.ret (by rw [if_neg (fun z => by omega)])
    · refine g_iconst dX6_isIn_13 ?_
      refine g_goto (tgt := 18) dX6_isIn_14 rfl ?_
      refine g_iretB (Or.inr rfl) rfl dX6_isIn_18 ?_
      first
        | exact Fw.ret (by rw [if_pos ⟨by omega, by omega⟩])
        | exact Fw.ret (by rw [if_neg (fun z => by omega)])
/-- which of two tests fails first -/
def thr (P Q : Prop) [Decidable P] [Decidable Q] : Int := if P then (if Q then 0 else 2) else 1
theorem passes_11 : FX g zX6_passes [.ref 92, iv 1, iv 1] σ l (iv 1) (up σ 92 6 0) := by
  refine Fn.of [some (.ref 92), some (iv 1), some (iv 1)] rfl (by decide) (Nat.le_of_ble_eq_true rfl) rfl ?_
  refine g_aload0 dX6_passes_0 ?_
  refine g_iload1 dX6_passes_1 ?_
  refine g_if_ne ⟨by decide, by decide⟩ (tgt := 9) dX6_passes_2 rfl (fun h2 => ?_) (fun h2 => absurd h2 (by decide))
  refine g_iload2 dX6_passes_9 ?_
  refine g_if_ne ⟨by decide, by decide⟩ (tgt := 17) dX6_passes_10 rfl (fun h10 => ?_) (fun h10 => absurd h10 (by decide))
  refine g_iconst dX6_passes_17 ?_
  refine f_puti (J := 6) rfl (by decide) rfl rfl fl_X6_66 rfl (fun _ _ _ h => by cases h; rfl) dX6_passes_18 ?_
  refine g_aload0 dX6_passes_21 ?_
  refine f_geti (J := 6) rfl (by decide) rfl rfl fl_X6_66 dX6_passes_22 ?_
  rw [up_eq]
  refine g_if_ne ⟨by decide, by decide⟩ (tgt := 32) dX6_passes_25 rfl (fun h25 => absurd h25 (by decide)) (fun h25 => ?_)
  refine g_iconst dX6_passes_28 ?_
  refine g_goto (tgt := 33) dX6_passes_29 rfl ?_
  refine g_iretB (Or.inr rfl) rfl dX6_passes_33 ?_
  exact fn_ret ⟨rfl, rfl, rfl⟩
theorem passes_10 : FX g zX6_passes [.ref 92, iv 1, iv 0] σ l (iv 0) (up σ 92 6 2) := by
  refine Fn.of [some (.ref 92), some (iv 1), some (iv 0)] rfl (by decide) (Nat.le_of_ble_eq_true rfl) rfl ?_
  refine g_aload0 dX6_passes_0 ?_
  refine g_iload1 dX6_passes_1 ?_
  refine g_if_ne ⟨by decide, by decide⟩ (tgt := 9) dX6_passes_2 rfl (fun h2 => ?_) (fun h2 => absurd h2 (by decide))
  refine g_iload2 dX6_passes_9 ?_
  refine g_if_ne ⟨by decide, by decide⟩ (tgt := 17) dX6_passes_10 rfl (fun h10 => absurd h10 (by decide)) (fun h10 => ?_)
  refine g_iconst dX6_passes_13 ?_
  refine g_goto (tgt := 18) dX6_passes_14 rfl ?_
  refine f_puti (J := 6) rfl (by decide) rfl rfl fl_X6_66 rfl (fun _ _ _ h => by cases h; rfl) dX6_passes_18 ?_
  refine g_aload0 dX6_passes_21 ?_
  refine f_geti (J := 6) rfl (by decide) rfl rfl fl_X6_66 dX6_passes_22 ?_
  rw [up_eq]
  refine g_if_ne ⟨by decide, by decide⟩ (tgt := 32) dX6_passes_25 rfl (fun h25 => ?_) (fun h25 => absurd h25 (by decide))
  refine g_iconst dX6_passes_32 ?_
  refine g_iretB (Or.inl rfl) rfl dX6_passes_33 ?_
  exact fn_ret ⟨rfl, rfl, rfl⟩
theorem passes_01 : FX g zX6_passes [.ref 92, iv 0, iv 1] σ l (iv 0) (up σ 92 6 1) := by
  refine Fn.of [some (.ref 92), some (iv 0), some (iv 1)] rfl (by decide) (Nat.le_of_ble_eq_true rfl) rfl ?_
  refine g_aload0 dX6_passes_0 ?_
  refine g_iload1 dX6_passes_1 ?_
  refine g_if_ne ⟨by decide, by decide⟩ (tgt := 9) dX6_passes_2 rfl (fun h2 => absurd h2 (by decide)) (fun h2 => ?_)
  refine g_iconst dX6_passes_5 ?_
  refine g_goto (tgt := 18) dX6_passes_6 rfl ?_
  refine f_puti (J := 6) rfl (by decide) rfl rfl fl_X6_66 rfl (fun _ _ _ h => by cases h; rfl) dX6_passes_18 ?_
  refine g_aload0 dX6_passes_21 ?_
  refine f_geti (J := 6) rfl (by decide) rfl rfl fl_X6_66 dX6_passes_22 ?_
  rw [up_eq]
  refine g_if_ne ⟨by decide, by decide⟩ (tgt := 32) dX6_passes_25 rfl (fun h25 => ?_) (fun h25 => absurd h25 (by decide))
  refine g_iconst dX6_passes_32 ?_
  refine g_iretB (Or.inl rfl) rfl dX6_passes_33 ?_
  exact fn_ret ⟨rfl, rfl, rfl⟩
theorem passes_00 : FX g zX6_passes [.ref 92, iv 0, iv 0] σ l (iv 0) (up σ 92 6 1) := by
  refine Fn.of [some (.ref 92), some (iv 0), some (iv 0)] rfl (by decide) (Nat.le_of_ble_eq_true rfl) rfl ?_
  refine g_aload0 dX6_passes_0 ?_
  refine g_iload1 dX6_passes_1 ?_
  refine g_if_ne ⟨by decide, by decide⟩ (tgt := 9) dX6_passes_2 rfl (fun h2 => absurd h2 (by decide)) (fun h2 => ?_)
  refine g_iconst dX6_passes_5 ?_
  refine g_goto (tgt := 18) dX6_passes_6 rfl ?_
  refine f_puti (J := 6) rfl (by decide) rfl rfl fl_X6_66 rfl (fun _ _ _ h => by cases h; rfl) dX6_passes_18 ?_
  refine g_aload0 dX6_passes_21 ?_
  refine f_geti (J := 6) rfl (by decide) rfl rfl fl_X6_66 dX6_passes_22 ?_
  rw [up_eq]
  refine g_if_ne ⟨by decide, by decide⟩ (tgt := 32) dX6_passes_25 rfl (fun h25 => ?_) (fun h25 => absurd h25 (by decide))
  refine g_iconst dX6_passes_32 ?_
  refine g_iretB (Or.inl rfl) rfl dX6_passes_33 ?_
  exact fn_ret ⟨rfl, rfl, rfl⟩
theorem passes_ok {P Q : Prop} [Decidable P] [Decidable Q] : FX g zX6_passes [.ref 92, bv P, bv Q] σ l (bv (P ∧ Q)) (up σ 92 6 (thr P Q)) := by
  unfold thr
  by_cases h1 : P
  · by_cases h2 : Q
    · rw [bvT h1, bvT h2, bvT ⟨h1, h2⟩, if_pos h1, if_pos h2]; exact passes_11
    · rw [bvT h1, bvF h2, bvF (fun z : P ∧ Q => h2 z.2), if_pos h1, if_neg h2]; exact passes_10
  · by_cases h2 : Q
    · rw [bvF h1, bvT h2, bvF (fun z : P ∧ Q => h1 z.1), if_neg h1]; exact passes_01
    · rw [bvF h1, bvF h2, bvF (fun z : P ∧ Q => h1 z.1), if_neg h1]; exact passes_00
theorem passes_ok1 {P : Prop} [Decidable P] : FX g zX6_passes [.ref 92, bv P, iv 1] σ l (bv P) (up σ 92 6 (if P then 0 else 1)) := by
  by_cases h1 : P
  · rw [bvT h1, if_pos h1]; exact passes_11
  · rw [bvF h1, if_neg h1]; exact passes_01
theorem power_ok {B : Int} {s : Int → Int} (ho : SOK B s) (hs : σ 93 = s) : Fw g zX6_power [.ref 92] σ l (iv ((3 ^ wH s : Nat) : Int)) := by
  have h7 := ho.h7
  have hI := ho.hI
  refine Fn.of [some (.ref 92), none, none] rfl (by decide) (Nat.le_of_ble_eq_true rfl) rfl ?_
  have loop : ∀ q : Nat, q ≤ wH s → ∀ i v : Int, i = (q : Int) → v = ((3 ^ q : Nat) : Int) → FW g zX6_power 0 0 (fun q σ' l' => q = .inl (some (iv ((3 ^ wH s : Nat) : Int))) ∧ σ' = σ ∧ l' = l) 4 [some (.ref 92), some (iv v), some (iv i)] [] σ l := by
    refine loopUp _ (fun q hq2 ih i v hi hv => ?_)
    subst hi
    refine g_iload2 dX6_power_4 ?_
    refine g_aload0 dX6_power_5 ?_
    refine f_getr (r := 93) rfl (by decide) rfl rfl fl_X6_7 dX6_power_6 ?_
    try rw [hs]
    refine g_iconst dX6_power_9 ?_
    refine f_iald rfl (by decide) ⟨by omega, by show _ < ((67 : Nat) : Int); omega⟩ dX6_power_10 ?_
    try rw [hs]
    refine g_icmp_ge ⟨by omega, by omega⟩ ⟨by omega, by omega⟩ (tgt := 24) dX6_power_11 rfl (fun h11 => ?_) (fun h11 => ?_)
    · refine g_iload1 dX6_power_24 ?_
      refine g_iretI rfl dX6_power_25 ?_
      exact Fw.ret (by rw [hv, show q = wH s from by omega])
    · refine g_iload1 dX6_power_14 ?_
      refine g_iconst dX6_power_15 ?_
      refine g_imul dX6_power_16 ?_
      refine g_istore1 dX6_power_17 rfl (by decide) ?_
      refine g_iinc2 dX6_power_18 rfl (by decide) ?_
      refine g_goto (tgt := 4) dX6_power_21 rfl ?_
      exact ih (by omega) _ _ (by push_cast; omega) (by rw [hv, Nat.pow_succ]; push_cast; rfl)
  refine g_iconst dX6_power_0 ?_
  refine g_istore1 dX6_power_1 rfl (by decide) ?_
  refine g_iconst dX6_power_2 ?_
  refine g_istore2 dX6_power_3 rfl (by decide) ?_
  exact loop 0 (Nat.zero_le _) _ _ rfl rfl
theorem many_ok {B : Int} {s : Int → Int} (ho : SOK B s) (hs : σ 93 = s) : Fw g zX6_many [.ref 92] σ l (iv (2 * ((3 ^ wH s : Nat) : Int))) := by
  refine Fn.of [some (.ref 92)] rfl (by decide) (Nat.le_of_ble_eq_true rfl) rfl ?_
  refine g_iconst dX6_many_0 ?_
  refine g_aload0 dX6_many_1 ?_
  refine f_cV0w (power_ok ho hs) rfl (by decide) rfl oY_X6_power oI_X6_power lk_X6_76 rfl dX6_many_2 rfl (Or.inl rfl) ?_
  refine g_imul dX6_many_5 ?_
  refine g_iretI rfl dX6_many_6 ?_
  exact Fw.ret rfl
theorem bv_c {P Q : Prop} {i : Decidable P} {j : Decidable Q} (h : P ↔ Q) : @bv P i = @bv Q j := by
  by_cases c : P
  · rw [bvT c, bvT (h.mp c)]
  · rw [bvF c, bvF (fun z => c (h.mpr z))]
theorem isPlay_ok {B : Int} {s : Int → Int} (ho : SOK B s) (hs : σ 93 = s) {p : Int} (hx : R32 p) : Fw g zX6_isPlay [.ref 92, iv p] σ l (bv (0 ≤ p ∧ p < 2 * ((3 ^ wH s : Nat) : Int))) := by
  have hp3 := p3_le ho.h7
  have hp0 := p3_pos (wH s)
  refine Fn.of [some (.ref 92), some (iv p)] rfl (by decide) (Nat.le_of_ble_eq_true rfl) rfl ?_
  refine g_iload1 dX6_isPlay_0 ?_
  refine g_i2l hx dX6_isPlay_1 ?_
  refine g_lconst0 dX6_isPlay_2 ?_
  refine g_aload0 dX6_isPlay_3 ?_
  refine f_cV0w (many_ok ho hs) rfl (by decide) rfl oY_X6_many oI_X6_many lk_X6_80 rfl dX6_isPlay_4 rfl (Or.inl rfl) ?_
  refine g_iconst dX6_isPlay_7 ?_
  refine g_isub dX6_isPlay_8 ?_
  refine g_i2l ⟨by omega, by omega⟩ dX6_isPlay_9 ?_
  refine f_cS3w (isIn_ok ⟨by omega, by omega⟩ ⟨by decide, by decide⟩ ⟨by omega, by omega⟩) oY_X6_isIn oT_X6_isIn lk_X6_83 rfl dX6_isPlay_10 rfl (Or.inl rfl) ?_
  rw [bv_c (show (0 ≤ p ∧ p ≤ 2 * ((3 ^ wH s : Nat) : Int) - 1) ↔ (0 ≤ p ∧ p < 2 * ((3 ^ wH s : Nat) : Int)) from by omega)]
  refine g_iretP rfl dX6_isPlay_13 ?_
  exact Fw.ret rfl
theorem isHole_ok {B : Int} {s : Int → Int} (ho : SOK B s) (hs : σ 93 = s) {x : Int} (hx : R32 x) : Fw g zX6_isHole [.ref 92, iv x] σ l (bv (0 ≤ x ∧ x < s 3)) := by
  have hh := ho.holes
  refine Fn.of [some (.ref 92), some (iv x)] rfl (by decide) (Nat.le_of_ble_eq_true rfl) rfl ?_
  refine g_iload1 dX6_isHole_0 ?_
  refine g_i2l hx dX6_isHole_1 ?_
  refine g_lconst0 dX6_isHole_2 ?_
  refine g_aload0 dX6_isHole_3 ?_
  refine f_getr (r := 93) rfl (by decide) rfl rfl fl_X6_7 dX6_isHole_4 ?_
  try rw [hs]
  refine g_iconst dX6_isHole_7 ?_
  refine f_iald rfl (by decide) ⟨by omega, by show _ < ((67 : Nat) : Int); omega⟩ dX6_isHole_8 ?_
  try rw [hs]
  refine g_iconst dX6_isHole_9 ?_
  refine g_isub dX6_isHole_10 ?_
  refine g_i2l ⟨by omega, by omega⟩ dX6_isHole_11 ?_
  refine f_cS3w (isIn_ok ⟨by omega, by omega⟩ ⟨by decide, by decide⟩ ⟨by omega, by omega⟩) oY_X6_isIn oT_X6_isIn lk_X6_83 rfl dX6_isHole_12 rfl (Or.inl rfl) ?_
  rw [bv_c (show (0 ≤ x ∧ x ≤ s 3 - 1) ↔ (0 ≤ x ∧ x < s 3) from by omega)]
  refine g_iretP rfl dX6_isHole_15 ?_
  exact Fw.ret rfl
theorem isStrong_ok {B : Int} {s : Int → Int} (ho : SOK B s) (hs : σ 93 = s) {p : Int} (hx : R32 p) : Fw g zX6_isStrong [.ref 92, iv p] σ l (bv (((3 ^ wH s : Nat) : Int) ≤ p)) := by
  have hp3 := p3_le ho.h7
  have hp0 := p3_pos (wH s)
  refine Fn.of [some (.ref 92), some (iv p)] rfl (by decide) (Nat.le_of_ble_eq_true rfl) rfl ?_
  refine g_iload1 dX6_isStrong_0 ?_
  refine g_aload0 dX6_isStrong_1 ?_
  refine f_cV0w (power_ok ho hs) rfl (by decide) rfl oY_X6_power oI_X6_power lk_X6_76 rfl dX6_isStrong_2 rfl (Or.inl rfl) ?_
  refine g_icmp_lt hx ⟨by omega, by omega⟩ (tgt := 12) dX6_isStrong_5 rfl (fun h5 => ?_) (fun h5 => ?_)
  · refine g_iconst dX6_isStrong_12 ?_
    refine g_iretB (Or.inl rfl) rfl dX6_isStrong_13 ?_
    first
      | exact Fw.ret (by rw [if_pos (by omega)])
      | exact Fw.ret (by rw [if_neg (by omega)])
  · refine g_iconst dX6_isStrong_8 ?_
    refine g_goto (tgt := 13) dX6_isStrong_9 rfl ?_
    refine g_iretB (Or.inr rfl) rfl dX6_isStrong_13 ?_
    first
      | exact Fw.ret (by rw [if_pos (by omega)])
      | exact Fw.ret (by rw [if_neg (by omega)])
theorem dv_s {p : Int} (hp : 0 ≤ p) (q : Nat) : p / ((3 ^ q : Nat) : Int) / 3 = p / ((3 ^ (q + 1) : Nat) : Int) := by
  obtain ⟨n, rfl⟩ : ∃ n : Nat, p = (n : Int) := ⟨p.toNat, by omega⟩
  have h : n / 3 ^ q / 3 = n / 3 ^ (q + 1) := by rw [Nat.div_div_eq_div_mul, Nat.pow_succ]
  have h2 := congrArg (fun z : Nat => (z : Int)) h
  push_cast at h2 ⊢
  exact h2
theorem dv_rng {p : Int} (hp : 0 ≤ p) (q : Nat) : 0 ≤ p / ((3 ^ q : Nat) : Int) ∧ p / ((3 ^ q : Nat) : Int) ≤ p := by
  have h0 := p3_pos q
  exact ⟨Int.ediv_nonneg hp (by omega), Int.ediv_le_self _ hp⟩
theorem cover_m {p : Int} {k : Nat} (hp : 0 ≤ p ∧ p ≤ 1000000) (hk : k ≤ 100) : Fw g zX6_coverOf [.ref 92, iv p, iv (k : Int)] σ l (iv (dgt p k)) := by
  refine Fn.of [some (.ref 92), some (iv p), some (iv (k : Int)), none, none] rfl (by decide) (Nat.le_of_ble_eq_true rfl) rfl ?_
  have loop : ∀ q : Nat, q ≤ k → ∀ i v : Int, i = (q : Int) → v = p / ((3 ^ q : Nat) : Int) → FW g zX6_coverOf 0 0 (fun q σ' l' => q = .inl (some (iv (dgt p k))) ∧ σ' = σ ∧ l' = l) 5 [some (.ref 92), some (iv p), some (iv (k : Int)), some (iv v), some (iv i)] [] σ l := by
    refine loopUp _ (fun q hq2 ih i v hi hv => ?_)
    subst hi
    have hr := dv_rng hp.1 q
    rw [← hv] at hr
    refine g_iload4 dX6_coverOf_5 ?_
    refine g_iload2 dX6_coverOf_7 ?_
    refine g_icmp_ge ⟨by omega, by omega⟩ ⟨by omega, by omega⟩ (tgt := 21) dX6_coverOf_8 rfl (fun h8 => ?_) (fun h8 => ?_)
    · refine g_iload3 dX6_coverOf_21 ?_
      refine g_iconst dX6_coverOf_22 ?_
      refine g_irem ⟨by omega, by omega⟩ ⟨by decide, by decide⟩ dX6_coverOf_23 ?_
      refine g_iretI rfl dX6_coverOf_24 ?_
      exact Fw.ret (by rw [hv, show q = k from by omega]; rfl)
    · refine g_iload3 dX6_coverOf_11 ?_
      refine g_iconst dX6_coverOf_12 ?_
      refine g_idiv ⟨by omega, by omega⟩ ⟨by decide, by decide⟩ dX6_coverOf_13 ?_
      refine g_istore3 dX6_coverOf_14 rfl (by decide) ?_
      refine g_iinc4 dX6_coverOf_15 rfl (by decide) ?_
      refine g_goto (tgt := 5) dX6_coverOf_18 rfl ?_
      exact ih (by omega) _ _ (by push_cast; omega) (by rw [hv, dv_s hp.1])
  refine g_iload1 dX6_coverOf_0 ?_
  refine g_istore3 dX6_coverOf_1 rfl (by decide) ?_
  refine g_iconst dX6_coverOf_2 ?_
  refine g_istore4 dX6_coverOf_3 rfl (by decide) ?_
  exact loop 0 (Nat.zero_le _) _ _ rfl (by rw [Nat.pow_zero]; omega)
theorem placeOf_ok {s : Int → Int} (hs : σ 93 = s) {k : Nat} (hk : k < 7) : Fw g zX6_placeOf [.ref 92, iv (k : Int)] σ l (iv (wPl s k)) := by
  refine Fn.of [some (.ref 92), some (iv (k : Int))] rfl (by decide) (Nat.le_of_ble_eq_true rfl) rfl ?_
  refine g_aload0 dX6_placeOf_0 ?_
  refine f_getr (r := 93) rfl (by decide) rfl rfl fl_X6_7 dX6_placeOf_1 ?_
  try rw [hs]
  refine g_bipush dX6_placeOf_4 (by decide) ?_
  refine g_iconst dX6_placeOf_6 ?_
  refine g_iload1 dX6_placeOf_7 ?_
  refine g_imul dX6_placeOf_8 ?_
  refine g_iadd dX6_placeOf_9 ?_
  refine f_iald rfl (by decide) ⟨by omega, by show _ < ((67 : Nat) : Int); omega⟩ dX6_placeOf_10 ?_
  try rw [hs]
  refine g_iretI rfl dX6_placeOf_11 ?_
  exact Fw.ret (by unfold wPl; rw [Int.toNat_natCast])
theorem sizeOf_ok {s : Int → Int} (hs : σ 93 = s) {k : Nat} (hk : k < 7) : Fw g zX6_sizeOf [.ref 92, iv (k : Int)] σ l (iv (wSz s k)) := by
  refine Fn.of [some (.ref 92), some (iv (k : Int))] rfl (by decide) (Nat.le_of_ble_eq_true rfl) rfl ?_
  refine g_aload0 dX6_sizeOf_0 ?_
  refine f_getr (r := 93) rfl (by decide) rfl rfl fl_X6_7 dX6_sizeOf_1 ?_
  try rw [hs]
  refine g_bipush dX6_sizeOf_4 (by decide) ?_
  refine g_iconst dX6_sizeOf_6 ?_
  refine g_iload1 dX6_sizeOf_7 ?_
  refine g_imul dX6_sizeOf_8 ?_
  refine g_iadd dX6_sizeOf_9 ?_
  refine g_iconst dX6_sizeOf_10 ?_
  refine g_iadd dX6_sizeOf_11 ?_
  refine f_iald rfl (by decide) ⟨by omega, by show _ < ((67 : Nat) : Int); omega⟩ dX6_sizeOf_12 ?_
  try rw [hs]
  refine g_iretI rfl dX6_sizeOf_13 ?_
  exact Fw.ret (by unfold wSz; rw [Int.toNat_natCast, show 13 + 2 * (k : Int) + 1 = 14 + 2 * (k : Int) from by omega])
theorem whole_ok {s : Int → Int} (hs : σ 93 = s) : Fw g zX6_whole [.ref 92] σ l (iv (10 * s 0 + 6 * s 1)) := by
  refine Fn.of [some (.ref 92)] rfl (by decide) (Nat.le_of_ble_eq_true rfl) rfl ?_
  refine g_bipush dX6_whole_0 (by decide) ?_
  refine g_aload0 dX6_whole_2 ?_
  refine f_getr (r := 93) rfl (by decide) rfl rfl fl_X6_7 dX6_whole_3 ?_
  try rw [hs]
  refine g_iconst dX6_whole_6 ?_
  refine f_iald rfl (by decide) ⟨by omega, by show _ < ((67 : Nat) : Int); omega⟩ dX6_whole_7 ?_
  try rw [hs]
  refine g_imul dX6_whole_8 ?_
  refine g_bipush dX6_whole_9 (by decide) ?_
  refine g_aload0 dX6_whole_11 ?_
  refine f_getr (r := 93) rfl (by decide) rfl rfl fl_X6_7 dX6_whole_12 ?_
  try rw [hs]
  refine g_iconst dX6_whole_15 ?_
  refine f_iald rfl (by decide) ⟨by omega, by show _ < ((67 : Nat) : Int); omega⟩ dX6_whole_16 ?_
  try rw [hs]
  refine g_imul dX6_whole_17 ?_
  refine g_iadd dX6_whole_18 ?_
  refine g_iretI rfl dX6_whole_19 ?_
  exact Fw.ret rfl
theorem Lq_p {b w : Int} {pl sz : Int → Int} {H m : Nat} {x d : Int} (hd : x % 3 = d) : Lq b pl sz w H (m + 1) x = if d = 2 then Lq b pl sz w H m (x / 3) else lenBy b (pl ((H : Int) - 1 - m)) (if d = 0 then sz ((H : Int) - 1 - m) else (sz ((H : Int) - 1 - m) + 1) / 2) (Lq b pl sz w H m (x / 3)) := by
  subst hd
  rfl
theorem sounding_m {B : Int} {s : Int → Int} (ho : SOK B s) (hs : σ 93 = s) {p : Int} (hp : 0 ≤ p ∧ p < 2 * ((3 ^ wH s : Nat) : Int)) : Fw g zX6_soundingOf [.ref 92, iv p] σ l (iv (wLen s (fgF ((3 ^ wH s : Nat) : Int) p))) := by
  have h7 := ho.h7
  have hI := ho.hI
  have hlen := ho.len
  have hbo := ho.bore
  have hp3 := p3_le h7
  have hfg := fgF_rng hp.1 hp.2
  have hLr := fun m hm x => Lq_rng (w := 10 * s 0 + 6 * s 1) ho.okB (by omega) m hm x
  refine Fn.of [some (.ref 92), some (iv p), none, none, none, none, none] rfl (by decide) (Nat.le_of_ble_eq_true rfl) rfl ?_
  have loop : ∀ j : Nat, j ≤ wH s → ∀ i v : Int, ∀ (u4 u5 u6 : Option Value), i = (j : Int) - 1 → v = Lq (s 1) (wPl s) (wSz s) (10 * s 0 + 6 * s 1) (wH s) (wH s - j) (fgF ((3 ^ wH s : Nat) : Int) p / ((3 ^ j : Nat) : Int)) → FW g zX6_soundingOf 0 0 (fun q σ' l' => q = .inl (some (iv (wLen s (fgF ((3 ^ wH s : Nat) : Int) p)))) ∧ σ' = σ ∧ l' = l) 14 [some (.ref 92), some (iv p), some (iv v), some (iv i), u4, u5, u6] [] σ l := by
    intro j
    induction j with
    | zero =>
      intro hj i v u4 u5 u6 hi hv
      refine g_iload3 dX6_soundingOf_14 ?_
      refine g_if_lt ⟨by omega, by omega⟩ (tgt := 113) dX6_soundingOf_15 rfl (fun h15 => ?_) (fun h15 => absurd h15 (by omega))
      refine g_iload2 dX6_soundingOf_113 ?_
      refine g_iretI rfl dX6_soundingOf_114 ?_
      exact Fw.ret (by rw [hv, Nat.sub_zero, Nat.pow_zero]; unfold wLen; congr 2; omega)
    | succ j ih =>
      intro hj i v u4 u5 u6 hi hv
      have hi2 : i = (j : Int) := by omega
      subst hi2
      have hv0 := hLr (wH s - (j + 1)) (by omega) (fgF ((3 ^ wH s : Nat) : Int) p / ((3 ^ (j + 1) : Nat) : Int))
      rw [← hv] at hv0
      have hdd := dg_rng (p / ((3 ^ j : Nat) : Int))
      rw [show p / ((3 ^ j : Nat) : Int) % 3 = dgt p j from rfl] at hdd
      have hd : (fgF ((3 ^ wH s : Nat) : Int) p / ((3 ^ j : Nat) : Int)) % 3 = dgt p j := dgt_fg (k := j) (by omega) p
      have hhol := ho.hol j (by omega) (by omega)
      have hnext := Lq_p (b := s 1) (w := 10 * s 0 + 6 * s 1) (pl := wPl s) (sz := wSz s) (H := wH s) (m := wH s - (j + 1)) hd
      rw [dv_s hfg.1, ← hv, show (wH s : Int) - 1 - ((wH s - (j + 1) : Nat) : Int) = (j : Int) from by omega, show wH s - (j + 1) + 1 = wH s - j from by omega] at hnext
      have hb2 : 0 ≤ 5 * s 1 * s 1 ∧ 5 * s 1 * s 1 ≤ 2000 := ⟨Int.mul_nonneg (by omega) (by omega), by have := Int.mul_le_mul (a := 5 * s 1) (b := s 1) (c := 100) (d := 20) (by omega) (by omega) (by omega) (by omega); omega⟩
      refine g_iload3 dX6_soundingOf_14 ?_
      refine g_if_lt ⟨by omega, by omega⟩ (tgt := 113) dX6_soundingOf_15 rfl (fun h15 => absurd h15 (by omega)) (fun h15 => ?_)
      refine g_aload0 dX6_soundingOf_18 ?_
      refine g_iload1 dX6_soundingOf_19 ?_
      refine g_iload3 dX6_soundingOf_20 ?_
      refine f_cV2w (cover_m ⟨by omega, by omega⟩ (by omega)) rfl (by decide) rfl oY_X6_coverOf oI_X6_coverOf lk_X6_90 rfl dX6_soundingOf_21 rfl (Or.inl rfl) ?_
      refine g_istore4 dX6_soundingOf_24 rfl (by decide) ?_
      refine g_iload4 dX6_soundingOf_26 ?_
      refine g_iconst dX6_soundingOf_28 ?_
      refine g_icmp_ne ⟨by omega, by omega⟩ ⟨by decide, by decide⟩ (tgt := 35) dX6_soundingOf_29 rfl (fun h29 => ?_) (fun h29 => ?_)
      · refine g_iload4 dX6_soundingOf_35 ?_
        refine g_if_ne ⟨by omega, by omega⟩ (tgt := 48) dX6_soundingOf_37 rfl (fun h37 => ?_) (fun h37 => ?_)
        · refine g_aload0 dX6_soundingOf_48 ?_
          refine g_iload3 dX6_soundingOf_49 ?_
          refine f_cV1w (sizeOf_ok hs (by omega)) rfl (by decide) rfl oY_X6_sizeOf oI_X6_sizeOf lk_X6_94 rfl dX6_soundingOf_50 rfl (Or.inl rfl) ?_
          refine g_iconst dX6_soundingOf_53 ?_
          refine g_iadd dX6_soundingOf_54 ?_
          refine g_iconst dX6_soundingOf_55 ?_
          refine g_idiv ⟨by omega, by omega⟩ ⟨by decide, by decide⟩ dX6_soundingOf_56 ?_
          obtain ⟨str, hstr, hst0, hst1⟩ : ∃ str : Int, (if dgt p j = 0 then wSz s j else (wSz s j + 1) / 2) = str ∧ 1 ≤ str ∧ str ≤ 15 := ⟨_, rfl, by split <;> omega, by split <;> omega⟩
          rw [if_neg (by omega), hstr] at hnext
          first
            | rw [show wSz s j = str from by rw [← hstr, if_pos (by omega)]]
            | rw [show (wSz s j + 1) / 2 = str from by rw [← hstr, if_neg (by omega)]]
          refine g_istore5 dX6_soundingOf_57 rfl (by decide) ?_
          have hq : 0 ≤ 5 * s 1 * s 1 / str ∧ 5 * s 1 * s 1 / str ≤ 5 * s 1 * s 1 := ⟨Int.ediv_nonneg hb2.1 (by omega), Int.ediv_le_self _ hb2.1⟩
          unfold lenBy at hnext
          rw [quoF_pos (show 0 < str by omega), quoF_pos (show 0 < 1 + str by omega)] at hnext
          refine g_bipush dX6_soundingOf_59 (by decide) ?_
          refine g_aload0 dX6_soundingOf_61 ?_
          refine g_iload3 dX6_soundingOf_62 ?_
          refine f_cV1w (placeOf_ok hs (by omega)) rfl (by decide) rfl oY_X6_placeOf oI_X6_placeOf lk_X6_98 rfl dX6_soundingOf_63 rfl (Or.inl rfl) ?_
          refine g_imul dX6_soundingOf_66 ?_
          refine g_iconst dX6_soundingOf_67 ?_
          refine g_aload0 dX6_soundingOf_68 ?_
          refine f_getr (r := 93) rfl (by decide) rfl rfl fl_X6_7 dX6_soundingOf_69 ?_
          try rw [hs]
          refine g_iconst dX6_soundingOf_72 ?_
          refine f_iald rfl (by decide) ⟨by omega, by show _ < ((67 : Nat) : Int); omega⟩ dX6_soundingOf_73 ?_
          try rw [hs]
          refine g_imul dX6_soundingOf_74 ?_
          refine g_aload0 dX6_soundingOf_75 ?_
          refine f_getr (r := 93) rfl (by decide) rfl rfl fl_X6_7 dX6_soundingOf_76 ?_
          try rw [hs]
          refine g_iconst dX6_soundingOf_79 ?_
          refine f_iald rfl (by decide) ⟨by omega, by show _ < ((67 : Nat) : Int); omega⟩ dX6_soundingOf_80 ?_
          try rw [hs]
          refine g_imul dX6_soundingOf_81 ?_
          refine g_iload5 dX6_soundingOf_82 ?_
          refine g_idiv ⟨by omega, by omega⟩ ⟨by omega, by omega⟩ dX6_soundingOf_84 ?_
          refine g_iadd dX6_soundingOf_85 ?_
          refine g_istore6 dX6_soundingOf_86 rfl (by decide) ?_
          refine g_iload6 dX6_soundingOf_88 ?_
          refine g_iload2 dX6_soundingOf_90 ?_
          refine g_icmp_ge ⟨by omega, by omega⟩ ⟨by omega, by omega⟩ (tgt := 107) dX6_soundingOf_91 rfl (fun h91 => ?_) (fun h91 => ?_)
          · refine g_iinc3 dX6_soundingOf_107 rfl (by decide) ?_
            refine g_goto (tgt := 14) dX6_soundingOf_110 rfl ?_
            first
              | exact ih (by omega) _ _ _ _ _ rfl (by rw [hnext, if_pos (by omega)])
              | exact ih (by omega) _ _ _ _ _ rfl (by rw [hnext, if_pos h91])
              | exact ih (by omega) _ _ _ _ _ rfl (by rw [hnext, if_neg (by omega)])
          · refine g_iload6 dX6_soundingOf_94 ?_
            refine g_iload2 dX6_soundingOf_96 ?_
            refine g_iload6 dX6_soundingOf_97 ?_
            refine g_isub dX6_soundingOf_99 ?_
            refine g_iconst dX6_soundingOf_100 ?_
            refine g_iload5 dX6_soundingOf_101 ?_
            refine g_iadd dX6_soundingOf_103 ?_
            refine g_idiv ⟨by omega, by omega⟩ ⟨by omega, by omega⟩ dX6_soundingOf_104 ?_
            refine g_iadd dX6_soundingOf_105 ?_
            refine g_istore2 dX6_soundingOf_106 rfl (by decide) ?_
            refine g_iinc3 dX6_soundingOf_107 rfl (by decide) ?_
            refine g_goto (tgt := 14) dX6_soundingOf_110 rfl ?_
            first
              | exact ih (by omega) _ _ _ _ _ rfl (by rw [hnext, if_pos (by omega)])
              | exact ih (by omega) _ _ _ _ _ rfl (by rw [hnext, if_pos h91])
              | exact ih (by omega) _ _ _ _ _ rfl (by rw [hnext, if_neg (by omega)])
        · refine g_aload0 dX6_soundingOf_40 ?_
          refine g_iload3 dX6_soundingOf_41 ?_
          refine f_cV1w (sizeOf_ok hs (by omega)) rfl (by decide) rfl oY_X6_sizeOf oI_X6_sizeOf lk_X6_94 rfl dX6_soundingOf_42 rfl (Or.inl rfl) ?_
          refine g_goto (tgt := 57) dX6_soundingOf_45 rfl ?_
          obtain ⟨str, hstr, hst0, hst1⟩ : ∃ str : Int, (if dgt p j = 0 then wSz s j else (wSz s j + 1) / 2) = str ∧ 1 ≤ str ∧ str ≤ 15 := ⟨_, rfl, by split <;> omega, by split <;> omega⟩
          rw [if_neg (by omega), hstr] at hnext
          first
            | rw [show wSz s j = str from by rw [← hstr, if_pos (by omega)]]
            | rw [show (wSz s j + 1) / 2 = str from by rw [← hstr, if_neg (by omega)]]
          refine g_istore5 dX6_soundingOf_57 rfl (by decide) ?_
          have hq : 0 ≤ 5 * s 1 * s 1 / str ∧ 5 * s 1 * s 1 / str ≤ 5 * s 1 * s 1 := ⟨Int.ediv_nonneg hb2.1 (by omega), Int.ediv_le_self _ hb2.1⟩
          unfold lenBy at hnext
          rw [quoF_pos (show 0 < str by omega), quoF_pos (show 0 < 1 + str by omega)] at hnext
          refine g_bipush dX6_soundingOf_59 (by decide) ?_
          refine g_aload0 dX6_soundingOf_61 ?_
          refine g_iload3 dX6_soundingOf_62 ?_
          refine f_cV1w (placeOf_ok hs (by omega)) rfl (by decide) rfl oY_X6_placeOf oI_X6_placeOf lk_X6_98 rfl dX6_soundingOf_63 rfl (Or.inl rfl) ?_
          refine g_imul dX6_soundingOf_66 ?_
          refine g_iconst dX6_soundingOf_67 ?_
          refine g_aload0 dX6_soundingOf_68 ?_
          refine f_getr (r := 93) rfl (by decide) rfl rfl fl_X6_7 dX6_soundingOf_69 ?_
          try rw [hs]
          refine g_iconst dX6_soundingOf_72 ?_
          refine f_iald rfl (by decide) ⟨by omega, by show _ < ((67 : Nat) : Int); omega⟩ dX6_soundingOf_73 ?_
          try rw [hs]
          refine g_imul dX6_soundingOf_74 ?_
          refine g_aload0 dX6_soundingOf_75 ?_
          refine f_getr (r := 93) rfl (by decide) rfl rfl fl_X6_7 dX6_soundingOf_76 ?_
          try rw [hs]
          refine g_iconst dX6_soundingOf_79 ?_
          refine f_iald rfl (by decide) ⟨by omega, by show _ < ((67 : Nat) : Int); omega⟩ dX6_soundingOf_80 ?_
          try rw [hs]
          refine g_imul dX6_soundingOf_81 ?_
          refine g_iload5 dX6_soundingOf_82 ?_
          refine g_idiv ⟨by omega, by omega⟩ ⟨by omega, by omega⟩ dX6_soundingOf_84 ?_
          refine g_iadd dX6_soundingOf_85 ?_
          refine g_istore6 dX6_soundingOf_86 rfl (by decide) ?_
          refine g_iload6 dX6_soundingOf_88 ?_
          refine g_iload2 dX6_soundingOf_90 ?_
          refine g_icmp_ge ⟨by omega, by omega⟩ ⟨by omega, by omega⟩ (tgt := 107) dX6_soundingOf_91 rfl (fun h91 => ?_) (fun h91 => ?_)
          · refine g_iinc3 dX6_soundingOf_107 rfl (by decide) ?_
            refine g_goto (tgt := 14) dX6_soundingOf_110 rfl ?_
            first
              | exact ih (by omega) _ _ _ _ _ rfl (by rw [hnext, if_pos (by omega)])
              | exact ih (by omega) _ _ _ _ _ rfl (by rw [hnext, if_pos h91])
              | exact ih (by omega) _ _ _ _ _ rfl (by rw [hnext, if_neg (by omega)])
          · refine g_iload6 dX6_soundingOf_94 ?_
            refine g_iload2 dX6_soundingOf_96 ?_
            refine g_iload6 dX6_soundingOf_97 ?_
            refine g_isub dX6_soundingOf_99 ?_
            refine g_iconst dX6_soundingOf_100 ?_
            refine g_iload5 dX6_soundingOf_101 ?_
            refine g_iadd dX6_soundingOf_103 ?_
            refine g_idiv ⟨by omega, by omega⟩ ⟨by omega, by omega⟩ dX6_soundingOf_104 ?_
            refine g_iadd dX6_soundingOf_105 ?_
            refine g_istore2 dX6_soundingOf_106 rfl (by decide) ?_
            refine g_iinc3 dX6_soundingOf_107 rfl (by decide) ?_
            refine g_goto (tgt := 14) dX6_soundingOf_110 rfl ?_
            first
              | exact ih (by omega) _ _ _ _ _ rfl (by rw [hnext, if_pos (by omega)])
              | exact ih (by omega) _ _ _ _ _ rfl (by rw [hnext, if_pos h91])
              | exact ih (by omega) _ _ _ _ _ rfl (by rw [hnext, if_neg (by omega)])
      · refine g_goto (tgt := 107) dX6_soundingOf_32 rfl ?_
        refine g_iinc3 dX6_soundingOf_107 rfl (by decide) ?_
        refine g_goto (tgt := 14) dX6_soundingOf_110 rfl ?_
        first
          | exact ih (by omega) _ _ _ _ _ rfl (by rw [hnext, if_pos (by omega)])
          | exact ih (by omega) _ _ _ _ _ rfl (by rw [hnext, if_pos h91])
          | exact ih (by omega) _ _ _ _ _ rfl (by rw [hnext, if_neg (by omega)])
  refine g_aload0 dX6_soundingOf_0 ?_
  refine f_cV0w (whole_ok hs) rfl (by decide) rfl oY_X6_whole oI_X6_whole lk_X6_87 rfl dX6_soundingOf_1 rfl (Or.inl rfl) ?_
  refine g_istore2 dX6_soundingOf_4 rfl (by decide) ?_
  refine g_aload0 dX6_soundingOf_5 ?_
  refine f_getr (r := 93) rfl (by decide) rfl rfl fl_X6_7 dX6_soundingOf_6 ?_
  try rw [hs]
  refine g_iconst dX6_soundingOf_9 ?_
  refine f_iald rfl (by decide) ⟨by omega, by show _ < ((67 : Nat) : Int); omega⟩ dX6_soundingOf_10 ?_
  try rw [hs]
  refine g_iconst dX6_soundingOf_11 ?_
  refine g_isub dX6_soundingOf_12 ?_
  refine g_istore3 dX6_soundingOf_13 rfl (by decide) ?_
  refine loop (wH s) (Nat.le_refl _) _ _ _ _ _ (by omega) ?_
  rw [Nat.sub_self]
  rfl
end C66
