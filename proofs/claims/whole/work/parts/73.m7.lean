/-! The model's questions -/
section C73
variable {g : gT} {σ : sT} {l : Nat → Nat}
/-- a question's answer, with what it has thrown -/
def Fo (g : gT) (y : yT) (as : List Value) (σ : sT) (l : Nat → Nat) (V : Value) (e : Int) : Prop := Fn g y 0 0 as σ l (fun o τ l' => o = .inl (some V) ∧ l' = l ∧ Md σ τ ∧ τ 92 6 = e)
theorem Fo.ret {τ : sT} {V W : Value} {e : Int} (h : W = V) (hM : Md σ τ) (he : τ 92 6 = e) : fΦ (fun o τ l' => o = .inl (some V) ∧ l' = l ∧ Md σ τ ∧ τ 92 6 = e) (.inl (some W)) (mem τ l) := ⟨τ, l, rfl, by rw [h], rfl, hM, he⟩
theorem Fo.w {y : yT} {as : List Value} {V : Value} {W : Value} {e : Int} (h : Fo g y as σ l V e) (hv : V = W) : Fo g y as σ l W e := by rw [← hv]; exact h
theorem laysP {B : Int} {s : Int → Int} (ho : SOK B s) (hs : σ 93 = s) : Fu g zX6_laysPlays 0 0 [.ref 92] σ l (fun τ l' => l' = l ∧ Md σ τ ∧ LdP τ s ∧ τ 92 = σ 92) := Fn.mono (laysPlays_m ho hs) (fun o τ l' h => ⟨h.1, h.2⟩)
theorem findsWay_y {B : Int} {s : Int → Int} (ho : SOK B s) (hs : σ 93 = s) (hk : wLk s (wTe s) 0 0 = -1) : Fn g zX6_findsWay 0 0 [.ref 92] σ l (fun o τ l' => o = .inl (some (iv 1)) ∧ (l' = l ∧ Md σ τ ∧ τ 92 = σ 92 ∧ LdP τ s ∧ ∀ k : Nat, k < wN s → τ 104 k = wWp s (k + 1))) := Fn.mono (findsWay_m ho hs) (fun o τ l' h => ⟨by rw [h.1, bvT hk], h.2.1, h.2.2.1, h.2.2.2.1, h.2.2.2.2.1, h.2.2.2.2.2 hk⟩)
theorem findsWay_n {B : Int} {s : Int → Int} (ho : SOK B s) (hs : σ 93 = s) (hk : ¬ wLk s (wTe s) 0 0 = -1) : Fn g zX6_findsWay 0 0 [.ref 92] σ l (fun o τ l' => o = .inl (some (iv 0)) ∧ (l' = l ∧ Md σ τ ∧ τ 92 = σ 92 ∧ LdP τ s)) := Fn.mono (findsWay_m ho hs) (fun o τ l' h => ⟨by rw [h.1, bvF hk], h.2.1, h.2.2.1, h.2.2.2.1, h.2.2.2.2.1⟩)
theorem mayPlay_y {B : Int} {s : Int → Int} (ho : SOK B s) (hs : σ 93 = s) {p : Int} (hx : R32 p) (h : 0 ≤ p ∧ p < (2 * ((3 ^ wH s : Nat) : Int))) : FX g zX6_mayPlay [.ref 92, iv p] σ l (iv 1) (up σ 92 6 0) := by
  have h1 := isPlay_ok (g := g) (l := l) ho hs hx
  rw [bvT h] at h1
  refine Fn.of [some (.ref 92), some (iv p)] rfl (by decide) (Nat.le_of_ble_eq_true rfl) rfl ?_
  refine g_aload0 dX6_mayPlay_0 ?_
  refine g_aload0 dX6_mayPlay_1 ?_
  refine g_iload1 dX6_mayPlay_2 ?_
  refine f_cV1w (h1) rfl (by decide) rfl oY_X6_isPlay oI_X6_isPlay lk_X6_297 rfl dX6_mayPlay_3 rfl (Or.inl rfl) ?_
  refine g_iconst dX6_mayPlay_6 ?_
  refine f_cV2x (passes_11) rfl (by decide) rfl oY_X6_passes oI_X6_passes lk_X6_285 rfl dX6_mayPlay_7 rfl (Or.inl rfl) ?_
  refine g_iretB (Or.inr rfl) rfl dX6_mayPlay_10 ?_
  exact ⟨_, _, rfl, rfl, rfl, rfl⟩
theorem mayPlay_n {B : Int} {s : Int → Int} (ho : SOK B s) (hs : σ 93 = s) {p : Int} (hx : R32 p) (h : ¬ (0 ≤ p ∧ p < (2 * ((3 ^ wH s : Nat) : Int)))) : FX g zX6_mayPlay [.ref 92, iv p] σ l (iv 0) (up σ 92 6 1) := by
  have h1 := isPlay_ok (g := g) (l := l) ho hs hx
  rw [bvF h] at h1
  refine Fn.of [some (.ref 92), some (iv p)] rfl (by decide) (Nat.le_of_ble_eq_true rfl) rfl ?_
  refine g_aload0 dX6_mayPlay_0 ?_
  refine g_aload0 dX6_mayPlay_1 ?_
  refine g_iload1 dX6_mayPlay_2 ?_
  refine f_cV1w (h1) rfl (by decide) rfl oY_X6_isPlay oI_X6_isPlay lk_X6_297 rfl dX6_mayPlay_3 rfl (Or.inl rfl) ?_
  refine g_iconst dX6_mayPlay_6 ?_
  refine f_cV2x (passes_01) rfl (by decide) rfl oY_X6_passes oI_X6_passes lk_X6_285 rfl dX6_mayPlay_7 rfl (Or.inl rfl) ?_
  refine g_iretB (Or.inl rfl) rfl dX6_mayPlay_10 ?_
  exact ⟨_, _, rfl, rfl, rfl, rfl⟩
theorem mayTone_y {p : Int} (hx : R32 p) (h : 0 ≤ p ∧ p ≤ 24) : FX g zX6_mayTone [.ref 92, iv p] σ l (iv 1) (up σ 92 6 0) := by
  have h1 := isTone_m (g := g) (σ := σ) (l := l) hx
  rw [bvT h] at h1
  refine Fn.of [some (.ref 92), some (iv p)] rfl (by decide) (Nat.le_of_ble_eq_true rfl) rfl ?_
  refine g_aload0 dX6_mayTone_0 ?_
  refine g_aload0 dX6_mayTone_1 ?_
  refine g_iload1 dX6_mayTone_2 ?_
  refine f_cV1w (h1) rfl (by decide) rfl oY_X6_isTone oI_X6_isTone lk_X6_165 rfl dX6_mayTone_3 rfl (Or.inl rfl) ?_
  refine g_iconst dX6_mayTone_6 ?_
  refine f_cV2x (passes_11) rfl (by decide) rfl oY_X6_passes oI_X6_passes lk_X6_285 rfl dX6_mayTone_7 rfl (Or.inl rfl) ?_
  refine g_iretB (Or.inr rfl) rfl dX6_mayTone_10 ?_
  exact ⟨_, _, rfl, rfl, rfl, rfl⟩
theorem mayTone_n {p : Int} (hx : R32 p) (h : ¬ (0 ≤ p ∧ p ≤ 24)) : FX g zX6_mayTone [.ref 92, iv p] σ l (iv 0) (up σ 92 6 1) := by
  have h1 := isTone_m (g := g) (σ := σ) (l := l) hx
  rw [bvF h] at h1
  refine Fn.of [some (.ref 92), some (iv p)] rfl (by decide) (Nat.le_of_ble_eq_true rfl) rfl ?_
  refine g_aload0 dX6_mayTone_0 ?_
  refine g_aload0 dX6_mayTone_1 ?_
  refine g_iload1 dX6_mayTone_2 ?_
  refine f_cV1w (h1) rfl (by decide) rfl oY_X6_isTone oI_X6_isTone lk_X6_165 rfl dX6_mayTone_3 rfl (Or.inl rfl) ?_
  refine g_iconst dX6_mayTone_6 ?_
  refine f_cV2x (passes_01) rfl (by decide) rfl oY_X6_passes oI_X6_passes lk_X6_285 rfl dX6_mayTone_7 rfl (Or.inl rfl) ?_
  refine g_iretB (Or.inl rfl) rfl dX6_mayTone_10 ?_
  exact ⟨_, _, rfl, rfl, rfl, rfl⟩
theorem isNote_m {B : Int} {s : Int → Int} (ho : SOK B s) (hs : σ 93 = s) {p : Int} (hx : R32 p) : Fw g zX6_isNote [.ref 92, iv p] σ l (bv (0 ≤ p ∧ p < s 9)) := by
  have hnI := ho.nI
  have hn40 := ho.n40
  refine Fn.of [some (.ref 92), some (iv p)] rfl (by decide) (Nat.le_of_ble_eq_true rfl) rfl ?_
  refine g_iload1 dX6_isNote_0 ?_
  refine g_i2l ⟨by omega, by omega⟩ dX6_isNote_1 ?_
  refine g_lconst0 dX6_isNote_2 ?_
  refine g_aload0 dX6_isNote_3 ?_
  refine f_getr (r := 93) rfl (by decide) rfl rfl fl_X6_7 dX6_isNote_4 ?_
  try rw [hs]
  refine g_bipush dX6_isNote_7 (by decide) ?_
  refine f_iald rfl (by decide) ⟨by omega, by show _ < ((67 : Nat) : Int); omega⟩ dX6_isNote_9 ?_
  try rw [hs]
  refine g_iconst dX6_isNote_10 ?_
  refine g_isub dX6_isNote_11 ?_
  refine g_i2l ⟨by omega, by omega⟩ dX6_isNote_12 ?_
  refine f_cS3w (isIn_ok (by omega) (by omega) (by omega)) oY_X6_isIn oT_X6_isIn lk_X6_83 rfl dX6_isNote_13 rfl (Or.inl rfl) ?_
  refine g_iretP rfl dX6_isNote_16 ?_
  exact Fw.retV (bv_c (by omega))
theorem mayNote_y {B : Int} {s : Int → Int} (ho : SOK B s) (hs : σ 93 = s) {p : Int} (hx : R32 p) (h : 0 ≤ p ∧ p < s 9) : FX g zX6_mayNote [.ref 92, iv p] σ l (iv 1) (up σ 92 6 0) := by
  have h1 := isNote_m (g := g) (l := l) ho hs hx
  rw [bvT h] at h1
  refine Fn.of [some (.ref 92), some (iv p)] rfl (by decide) (Nat.le_of_ble_eq_true rfl) rfl ?_
  refine g_aload0 dX6_mayNote_0 ?_
  refine g_aload0 dX6_mayNote_1 ?_
  refine g_iload1 dX6_mayNote_2 ?_
  refine f_cV1w (h1) rfl (by decide) rfl oY_X6_isNote oI_X6_isNote lk_X6_327 rfl dX6_mayNote_3 rfl (Or.inl rfl) ?_
  refine g_iconst dX6_mayNote_6 ?_
  refine f_cV2x (passes_11) rfl (by decide) rfl oY_X6_passes oI_X6_passes lk_X6_285 rfl dX6_mayNote_7 rfl (Or.inl rfl) ?_
  refine g_iretB (Or.inr rfl) rfl dX6_mayNote_10 ?_
  exact ⟨_, _, rfl, rfl, rfl, rfl⟩
theorem mayNote_n {B : Int} {s : Int → Int} (ho : SOK B s) (hs : σ 93 = s) {p : Int} (hx : R32 p) (h : ¬ (0 ≤ p ∧ p < s 9)) : FX g zX6_mayNote [.ref 92, iv p] σ l (iv 0) (up σ 92 6 1) := by
  have h1 := isNote_m (g := g) (l := l) ho hs hx
  rw [bvF h] at h1
  refine Fn.of [some (.ref 92), some (iv p)] rfl (by decide) (Nat.le_of_ble_eq_true rfl) rfl ?_
  refine g_aload0 dX6_mayNote_0 ?_
  refine g_aload0 dX6_mayNote_1 ?_
  refine g_iload1 dX6_mayNote_2 ?_
  refine f_cV1w (h1) rfl (by decide) rfl oY_X6_isNote oI_X6_isNote lk_X6_327 rfl dX6_mayNote_3 rfl (Or.inl rfl) ?_
  refine g_iconst dX6_mayNote_6 ?_
  refine f_cV2x (passes_01) rfl (by decide) rfl oY_X6_passes oI_X6_passes lk_X6_285 rfl dX6_mayNote_7 rfl (Or.inl rfl) ?_
  refine g_iretB (Or.inl rfl) rfl dX6_mayNote_10 ?_
  exact ⟨_, _, rfl, rfl, rfl, rfl⟩
theorem mayPlays_y {B : Int} {s : Int → Int} (ho : SOK B s) (hs : σ 93 = s) {p q : Int} (hx : R32 p) (hy : R32 q) (h : (0 ≤ p ∧ p < (2 * ((3 ^ wH s : Nat) : Int))) ∧ 0 ≤ q ∧ q < (2 * ((3 ^ wH s : Nat) : Int))) : FX g zX6_mayPlays [.ref 92, iv p, iv q] σ l (iv 1) (up σ 92 6 0) := by
  refine Fn.of [some (.ref 92), some (iv p), some (iv q)] rfl (by decide) (Nat.le_of_ble_eq_true rfl) rfl ?_
  have h1 := isPlay_ok (g := g) (l := l) ho hs hx
  rw [bvT h.1] at h1
  have h2 := isPlay_ok (g := g) (l := l) ho hs hy
  rw [bvT h.2] at h2
  refine g_aload0 dX6_mayPlays_0 ?_
  refine g_aload0 dX6_mayPlays_1 ?_
  refine g_iload1 dX6_mayPlays_2 ?_
  refine f_cV1w (h1) rfl (by decide) rfl oY_X6_isPlay oI_X6_isPlay lk_X6_297 rfl dX6_mayPlays_3 rfl (Or.inl rfl) ?_
  refine g_if_eq ⟨by decide, by decide⟩ (tgt := 21) dX6_mayPlays_6 rfl (fun h6 => absurd h6 (by decide)) (fun h6 => ?_)
  refine g_aload0 dX6_mayPlays_9 ?_
  refine g_iload2 dX6_mayPlays_10 ?_
  refine f_cV1w (h2) rfl (by decide) rfl oY_X6_isPlay oI_X6_isPlay lk_X6_297 rfl dX6_mayPlays_11 rfl (Or.inl rfl) ?_
  refine g_if_eq ⟨by decide, by decide⟩ (tgt := 21) dX6_mayPlays_14 rfl (fun h14 => absurd h14 (by decide)) (fun h14 => ?_)
  refine g_iconst dX6_mayPlays_17 ?_
  refine g_goto (tgt := 22) dX6_mayPlays_18 rfl ?_
  refine g_iconst dX6_mayPlays_22 ?_
  refine f_cV2x (passes_11) rfl (by decide) rfl oY_X6_passes oI_X6_passes lk_X6_285 rfl dX6_mayPlays_23 rfl (Or.inl rfl) ?_
  refine g_iretB (Or.inr rfl) rfl dX6_mayPlays_26 ?_
  exact ⟨_, _, rfl, rfl, rfl, rfl⟩
theorem mayPlays_n {B : Int} {s : Int → Int} (ho : SOK B s) (hs : σ 93 = s) {p q : Int} (hx : R32 p) (hy : R32 q) (h : ¬ ((0 ≤ p ∧ p < (2 * ((3 ^ wH s : Nat) : Int))) ∧ 0 ≤ q ∧ q < (2 * ((3 ^ wH s : Nat) : Int)))) : FX g zX6_mayPlays [.ref 92, iv p, iv q] σ l (iv 0) (up σ 92 6 1) := by
  refine Fn.of [some (.ref 92), some (iv p), some (iv q)] rfl (by decide) (Nat.le_of_ble_eq_true rfl) rfl ?_
  have h1 := isPlay_ok (g := g) (l := l) ho hs hx
  have h2 := isPlay_ok (g := g) (l := l) ho hs hy
  by_cases c1 : 0 ≤ p ∧ p < (2 * ((3 ^ wH s : Nat) : Int))
  · rw [bvT c1] at h1
    rw [bvF (fun z => h ⟨c1, z⟩)] at h2
    refine g_aload0 dX6_mayPlays_0 ?_
    refine g_aload0 dX6_mayPlays_1 ?_
    refine g_iload1 dX6_mayPlays_2 ?_
    refine f_cV1w (h1) rfl (by decide) rfl oY_X6_isPlay oI_X6_isPlay lk_X6_297 rfl dX6_mayPlays_3 rfl (Or.inl rfl) ?_
    refine g_if_eq ⟨by decide, by decide⟩ (tgt := 21) dX6_mayPlays_6 rfl (fun h6 => absurd h6 (by decide)) (fun h6 => ?_)
    refine g_aload0 dX6_mayPlays_9 ?_
    refine g_iload2 dX6_mayPlays_10 ?_
    refine f_cV1w (h2) rfl (by decide) rfl oY_X6_isPlay oI_X6_isPlay lk_X6_297 rfl dX6_mayPlays_11 rfl (Or.inl rfl) ?_
    refine g_if_eq ⟨by decide, by decide⟩ (tgt := 21) dX6_mayPlays_14 rfl (fun h14 => ?_) (fun h14 => absurd h14 (by decide))
    refine g_iconst dX6_mayPlays_21 ?_
    refine g_iconst dX6_mayPlays_22 ?_
    refine f_cV2x (passes_01) rfl (by decide) rfl oY_X6_passes oI_X6_passes lk_X6_285 rfl dX6_mayPlays_23 rfl (Or.inl rfl) ?_
    refine g_iretB (Or.inl rfl) rfl dX6_mayPlays_26 ?_
    exact ⟨_, _, rfl, rfl, rfl, rfl⟩
  · rw [bvF c1] at h1
    refine g_aload0 dX6_mayPlays_0 ?_
    refine g_aload0 dX6_mayPlays_1 ?_
    refine g_iload1 dX6_mayPlays_2 ?_
    refine f_cV1w (h1) rfl (by decide) rfl oY_X6_isPlay oI_X6_isPlay lk_X6_297 rfl dX6_mayPlays_3 rfl (Or.inl rfl) ?_
    refine g_if_eq ⟨by decide, by decide⟩ (tgt := 21) dX6_mayPlays_6 rfl (fun h6 => ?_) (fun h6 => absurd h6 (by decide))
    refine g_iconst dX6_mayPlays_21 ?_
    refine g_iconst dX6_mayPlays_22 ?_
    refine f_cV2x (passes_01) rfl (by decide) rfl oY_X6_passes oI_X6_passes lk_X6_285 rfl dX6_mayPlays_23 rfl (Or.inl rfl) ?_
    refine g_iretB (Or.inl rfl) rfl dX6_mayPlays_26 ?_
    exact ⟨_, _, rfl, rfl, rfl, rfl⟩
theorem pitch_m {B : Int} {s : Int → Int} (ho : SOK B s) (hs : σ 93 = s) {p : Int} (h : 0 ≤ p ∧ p < (2 * ((3 ^ wH s : Nat) : Int))) : Fn g zX6_pitch 0 0 [.ref 92, iv p] σ l (fun o τ l' => o = .inl (some (iv (wCn s p))) ∧ (l' = l ∧ Md σ τ ∧ τ 92 = σ 92)) := by
  have hls : Fu g zX6_laysSteps 0 0 [.ref 92] σ l (fun τ l' => l' = l ∧ (∀ a, a ≠ 98 → τ a = σ a) ∧ ∀ k, 0 ≤ k → k < 49 → τ 98 k = stI (10 * s 0 + 6 * s 1) k) := Fn.mono (laysSteps_m ho hs) (fun o τ l' h => ⟨h.1, h.2⟩)
  refine Fn.of [some (.ref 92), some (iv p)] rfl (by decide) (Nat.le_of_ble_eq_true rfl) rfl ?_
  refine g_aload0 dX6_pitch_0 ?_
  refine f_cV0m (hls) rfl (by decide) rfl oY_X6_laysSteps oI_X6_laysSteps lk_X6_124 rfl dX6_pitch_1 (by omega) (by omega) rfl (Or.inl rfl) (fun σ1 l1 h1 => ?_)
  have el := h1.1
  subst el
  have hs1 := (h1.2.1 93 (by decide)).trans hs
  refine g_aload0 dX6_pitch_4 ?_
  refine g_iload1 dX6_pitch_5 ?_
  refine f_cV1w (cents_m ho hs1 rfl h1.2.2 h) rfl (by decide) rfl oY_X6_centsOf oI_X6_centsOf lk_X6_127 rfl dX6_pitch_6 rfl (Or.inl rfl) ?_
  refine g_iretI rfl dX6_pitch_9 ?_
  exact fn_ret ⟨rfl, rfl, ⟨fun a a0 a1 => h1.2.1 a (by omega), fun j _ => by rw [h1.2.1 92 (by decide)]⟩, h1.2.1 92 (by decide)⟩
theorem offOf_m {x : Int} (hx : 0 ≤ x ∧ x ≤ 1000000) : Fw g zX6_offOf [.ref 92, iv x] σ l (iv (offC x)) := by
  refine Fn.of [some (.ref 92), some (iv x), none] rfl (by decide) (Nat.le_of_ble_eq_true rfl) rfl ?_
  refine g_iload1 dX6_offOf_0 ?_
  refine g_bipush dX6_offOf_1 (by decide) ?_
  refine g_irem ⟨by omega, by omega⟩ ⟨by decide, by decide⟩ dX6_offOf_3 ?_
  refine g_istore2 dX6_offOf_4 rfl (by decide) ?_
  refine g_iload2 dX6_offOf_5 ?_
  refine g_bipush dX6_offOf_6 (by decide) ?_
  refine g_icmp_gt ⟨by omega, by omega⟩ ⟨by omega, by omega⟩ (tgt := 15) dX6_offOf_8 rfl (fun h8 => ?_) (fun h8 => ?_)
  · refine g_iload2 dX6_offOf_15 ?_
    refine g_bipush dX6_offOf_16 (by decide) ?_
    refine g_isub dX6_offOf_18 ?_
    refine g_iretI rfl dX6_offOf_19 ?_
    first
      | exact Fw.ret (by unfold offC; rw [if_neg (by omega)])
      | exact Fw.ret (by unfold offC; rw [if_pos (by omega)])
  · refine g_iload2 dX6_offOf_11 ?_
    refine g_goto (tgt := 19) dX6_offOf_12 rfl ?_
    refine g_iretI rfl dX6_offOf_19 ?_
    first
      | exact Fw.ret (by unfold offC; rw [if_neg (by omega)])
      | exact Fw.ret (by unfold offC; rw [if_pos (by omega)])
theorem pitch_q {ρ : sT} {B : Int} {s : Int → Int} (ho : SOK B s) (hs : σ 93 = s) {p : Int} (h : 0 ≤ p ∧ p < (2 * ((3 ^ wH s : Nat) : Int))) (hM : Md ρ σ) (he : σ 92 6 = 0) : Fn g zX6_pitch 0 0 [.ref 92, iv p] σ l (fun o τ l' => o = .inl (some (iv (wCn s p))) ∧ (l' = l ∧ Md ρ τ ∧ τ 92 6 = 0)) := Fn.mono (pitch_m ho hs h) (fun o τ l' a => ⟨a.1, a.2.1, hM.trans a.2.2.1, by rw [a.2.2.2]; exact he⟩)
theorem sounding_q {B : Int} {s : Int → Int} (ho : SOK B s) (hs : σ 93 = s) {p : Int} (hx : R32 p) (h : 0 ≤ p ∧ p < (2 * ((3 ^ wH s : Nat) : Int))) : Fo g zX6_sounding [.ref 92, iv p] σ l (iv (wLen s (fgF ((3 ^ wH s : Nat) : Int) p))) 0 := by
  have hs0 : up σ 92 6 0 93 = s := (up_n (by decide)).trans hs
  have hM0 : Md σ (up σ 92 6 0) := md_th (Md.refl σ)
  have he0 : up σ 92 6 0 92 6 = 0 := up_eq
  have hp3 := p3_le ho.h7
  have hp0 := p3_pos (wH s)
  have hn40 := ho.n40
  have hnI := ho.nI
  have hH7 := ho.h7
  have hHI := ho.hI
  have hb4 := ho.halves
  have hb5 := ho.crosses
  refine Fn.of [some (.ref 92), some (iv p)] rfl (by decide) (Nat.le_of_ble_eq_true rfl) rfl ?_
  refine g_aload0 dX6_sounding_0 ?_
  refine g_iload1 dX6_sounding_1 ?_
  refine f_cV1x (mayPlay_y ho hs hx h) rfl (by decide) rfl oY_X6_mayPlay oI_X6_mayPlay lk_X6_300 rfl dX6_sounding_2 rfl (Or.inl rfl) ?_
  refine g_if_eq ⟨by decide, by decide⟩ (tgt := 16) dX6_sounding_5 rfl (fun h5 => absurd h5 (by decide)) (fun h5 => ?_)
  refine g_aload0 dX6_sounding_8 ?_
  refine g_iload1 dX6_sounding_9 ?_
  refine f_cV1w (sounding_m ho hs0 h) rfl (by decide) rfl oY_X6_soundingOf oI_X6_soundingOf lk_X6_107 rfl dX6_sounding_10 rfl (Or.inl rfl) ?_
  refine g_goto (tgt := 17) dX6_sounding_13 rfl ?_
  refine g_iretI rfl dX6_sounding_17 ?_
  exact Fo.ret rfl hM0 he0
theorem sounding_r {B : Int} {s : Int → Int} (ho : SOK B s) (hs : σ 93 = s) {p : Int} (hx : R32 p) (h : ¬ (0 ≤ p ∧ p < (2 * ((3 ^ wH s : Nat) : Int)))) : Fo g zX6_sounding [.ref 92, iv p] σ l (iv 0) 1 := by
  have hs0 : up σ 92 6 0 93 = s := (up_n (by decide)).trans hs
  have hM0 : Md σ (up σ 92 6 0) := md_th (Md.refl σ)
  have he0 : up σ 92 6 0 92 6 = 0 := up_eq
  have hp3 := p3_le ho.h7
  have hp0 := p3_pos (wH s)
  have hn40 := ho.n40
  have hnI := ho.nI
  have hH7 := ho.h7
  have hHI := ho.hI
  have hb4 := ho.halves
  have hb5 := ho.crosses
  refine Fn.of [some (.ref 92), some (iv p)] rfl (by decide) (Nat.le_of_ble_eq_true rfl) rfl ?_
  refine g_aload0 dX6_sounding_0 ?_
  refine g_iload1 dX6_sounding_1 ?_
  refine f_cV1x (mayPlay_n ho hs hx h) rfl (by decide) rfl oY_X6_mayPlay oI_X6_mayPlay lk_X6_300 rfl dX6_sounding_2 rfl (Or.inl rfl) ?_
  refine g_if_eq ⟨by decide, by decide⟩ (tgt := 16) dX6_sounding_5 rfl (fun h5 => ?_) (fun h5 => absurd h5 (by decide))
  refine g_iconst dX6_sounding_16 ?_
  refine g_iretI rfl dX6_sounding_17 ?_
  exact Fo.ret rfl (md_th (Md.refl σ)) up_eq
theorem cents_q {B : Int} {s : Int → Int} (ho : SOK B s) (hs : σ 93 = s) {p : Int} (hx : R32 p) (h : 0 ≤ p ∧ p < (2 * ((3 ^ wH s : Nat) : Int))) : Fo g zX6_cents [.ref 92, iv p] σ l (iv (wCn s p)) 0 := by
  have hs0 : up σ 92 6 0 93 = s := (up_n (by decide)).trans hs
  have hM0 : Md σ (up σ 92 6 0) := md_th (Md.refl σ)
  have he0 : up σ 92 6 0 92 6 = 0 := up_eq
  have hp3 := p3_le ho.h7
  have hp0 := p3_pos (wH s)
  have hn40 := ho.n40
  have hnI := ho.nI
  have hH7 := ho.h7
  have hHI := ho.hI
  have hb4 := ho.halves
  have hb5 := ho.crosses
  refine Fn.of [some (.ref 92), some (iv p)] rfl (by decide) (Nat.le_of_ble_eq_true rfl) rfl ?_
  refine g_aload0 dX6_cents_0 ?_
  refine g_iload1 dX6_cents_1 ?_
  refine f_cV1x (mayPlay_y ho hs hx h) rfl (by decide) rfl oY_X6_mayPlay oI_X6_mayPlay lk_X6_300 rfl dX6_cents_2 rfl (Or.inl rfl) ?_
  refine g_if_eq ⟨by decide, by decide⟩ (tgt := 16) dX6_cents_5 rfl (fun h5 => absurd h5 (by decide)) (fun h5 => ?_)
  refine g_aload0 dX6_cents_8 ?_
  refine g_iload1 dX6_cents_9 ?_
  refine f_cV1q (pitch_q ho hs0 h hM0 he0) rfl (by decide) rfl oY_X6_pitch oI_X6_pitch lk_X6_303 rfl dX6_cents_10 (by omega) (by omega) rfl (Or.inl rfl) (fun σ10 l10 h10 => ?_)
  have el1 := h10.1
  subst el1
  have hs1 := h10.2.1.s hs
  have hcr := wCn_rng ho p
  refine g_goto (tgt := 17) dX6_cents_13 rfl ?_
  refine g_iretI rfl dX6_cents_17 ?_
  exact Fo.ret rfl h10.2.1 h10.2.2
theorem cents_r {B : Int} {s : Int → Int} (ho : SOK B s) (hs : σ 93 = s) {p : Int} (hx : R32 p) (h : ¬ (0 ≤ p ∧ p < (2 * ((3 ^ wH s : Nat) : Int)))) : Fo g zX6_cents [.ref 92, iv p] σ l (iv 0) 1 := by
  have hs0 : up σ 92 6 0 93 = s := (up_n (by decide)).trans hs
  have hM0 : Md σ (up σ 92 6 0) := md_th (Md.refl σ)
  have he0 : up σ 92 6 0 92 6 = 0 := up_eq
  have hp3 := p3_le ho.h7
  have hp0 := p3_pos (wH s)
  have hn40 := ho.n40
  have hnI := ho.nI
  have hH7 := ho.h7
  have hHI := ho.hI
  have hb4 := ho.halves
  have hb5 := ho.crosses
  refine Fn.of [some (.ref 92), some (iv p)] rfl (by decide) (Nat.le_of_ble_eq_true rfl) rfl ?_
  refine g_aload0 dX6_cents_0 ?_
  refine g_iload1 dX6_cents_1 ?_
  refine f_cV1x (mayPlay_n ho hs hx h) rfl (by decide) rfl oY_X6_mayPlay oI_X6_mayPlay lk_X6_300 rfl dX6_cents_2 rfl (Or.inl rfl) ?_
  refine g_if_eq ⟨by decide, by decide⟩ (tgt := 16) dX6_cents_5 rfl (fun h5 => ?_) (fun h5 => absurd h5 (by decide))
  refine g_iconst dX6_cents_16 ?_
  refine g_iretI rfl dX6_cents_17 ?_
  exact Fo.ret rfl (md_th (Md.refl σ)) up_eq
theorem tone_q {B : Int} {s : Int → Int} (ho : SOK B s) (hs : σ 93 = s) {p : Int} (hx : R32 p) (h : 0 ≤ p ∧ p < (2 * ((3 ^ wH s : Nat) : Int))) : Fo g zX6_tone [.ref 92, iv p] σ l (iv (wT s p)) 0 := by
  have hs0 : up σ 92 6 0 93 = s := (up_n (by decide)).trans hs
  have hM0 : Md σ (up σ 92 6 0) := md_th (Md.refl σ)
  have he0 : up σ 92 6 0 92 6 = 0 := up_eq
  have hp3 := p3_le ho.h7
  have hp0 := p3_pos (wH s)
  have hn40 := ho.n40
  have hnI := ho.nI
  have hH7 := ho.h7
  have hHI := ho.hI
  have hb4 := ho.halves
  have hb5 := ho.crosses
  refine Fn.of [some (.ref 92), some (iv p)] rfl (by decide) (Nat.le_of_ble_eq_true rfl) rfl ?_
  refine g_aload0 dX6_tone_0 ?_
  refine g_iload1 dX6_tone_1 ?_
  refine f_cV1x (mayPlay_y ho hs hx h) rfl (by decide) rfl oY_X6_mayPlay oI_X6_mayPlay lk_X6_300 rfl dX6_tone_2 rfl (Or.inl rfl) ?_
  refine g_if_eq ⟨by decide, by decide⟩ (tgt := 20) dX6_tone_5 rfl (fun h5 => absurd h5 (by decide)) (fun h5 => ?_)
  refine g_aload0 dX6_tone_8 ?_
  refine g_aload0 dX6_tone_9 ?_
  refine g_iload1 dX6_tone_10 ?_
  refine f_cV1q (pitch_q ho hs0 h hM0 he0) rfl (by decide) rfl oY_X6_pitch oI_X6_pitch lk_X6_303 rfl dX6_tone_11 (by omega) (by omega) rfl (Or.inl rfl) (fun σ11 l11 h11 => ?_)
  have el1 := h11.1
  subst el1
  have hs1 := h11.2.1.s hs
  have hcr := wCn_rng ho p
  refine f_cV1w (tone_m ho hs1 ⟨by omega, by omega⟩) rfl (by decide) rfl oY_X6_toneOf oI_X6_toneOf lk_X6_130 rfl dX6_tone_14 rfl (Or.inl rfl) ?_
  refine g_goto (tgt := 21) dX6_tone_17 rfl ?_
  refine g_iretI rfl dX6_tone_21 ?_
  exact Fo.ret rfl h11.2.1 h11.2.2
theorem tone_r {B : Int} {s : Int → Int} (ho : SOK B s) (hs : σ 93 = s) {p : Int} (hx : R32 p) (h : ¬ (0 ≤ p ∧ p < (2 * ((3 ^ wH s : Nat) : Int)))) : Fo g zX6_tone [.ref 92, iv p] σ l (iv 0) 1 := by
  have hs0 : up σ 92 6 0 93 = s := (up_n (by decide)).trans hs
  have hM0 : Md σ (up σ 92 6 0) := md_th (Md.refl σ)
  have he0 : up σ 92 6 0 92 6 = 0 := up_eq
  have hp3 := p3_le ho.h7
  have hp0 := p3_pos (wH s)
  have hn40 := ho.n40
  have hnI := ho.nI
  have hH7 := ho.h7
  have hHI := ho.hI
  have hb4 := ho.halves
  have hb5 := ho.crosses
  refine Fn.of [some (.ref 92), some (iv p)] rfl (by decide) (Nat.le_of_ble_eq_true rfl) rfl ?_
  refine g_aload0 dX6_tone_0 ?_
  refine g_iload1 dX6_tone_1 ?_
  refine f_cV1x (mayPlay_n ho hs hx h) rfl (by decide) rfl oY_X6_mayPlay oI_X6_mayPlay lk_X6_300 rfl dX6_tone_2 rfl (Or.inl rfl) ?_
  refine g_if_eq ⟨by decide, by decide⟩ (tgt := 20) dX6_tone_5 rfl (fun h5 => ?_) (fun h5 => absurd h5 (by decide))
  refine g_iconst dX6_tone_20 ?_
  refine g_iretI rfl dX6_tone_21 ?_
  exact Fo.ret rfl (md_th (Md.refl σ)) up_eq
theorem off_q {B : Int} {s : Int → Int} (ho : SOK B s) (hs : σ 93 = s) {p : Int} (hx : R32 p) (h : 0 ≤ p ∧ p < (2 * ((3 ^ wH s : Nat) : Int))) : Fo g zX6_off [.ref 92, iv p] σ l (iv (offC (wCn s p))) 0 := by
  have hs0 : up σ 92 6 0 93 = s := (up_n (by decide)).trans hs
  have hM0 : Md σ (up σ 92 6 0) := md_th (Md.refl σ)
  have he0 : up σ 92 6 0 92 6 = 0 := up_eq
  have hp3 := p3_le ho.h7
  have hp0 := p3_pos (wH s)
  have hn40 := ho.n40
  have hnI := ho.nI
  have hH7 := ho.h7
  have hHI := ho.hI
  have hb4 := ho.halves
  have hb5 := ho.crosses
  refine Fn.of [some (.ref 92), some (iv p)] rfl (by decide) (Nat.le_of_ble_eq_true rfl) rfl ?_
  refine g_aload0 dX6_off_0 ?_
  refine g_iload1 dX6_off_1 ?_
  refine f_cV1x (mayPlay_y ho hs hx h) rfl (by decide) rfl oY_X6_mayPlay oI_X6_mayPlay lk_X6_300 rfl dX6_off_2 rfl (Or.inl rfl) ?_
  refine g_if_eq ⟨by decide, by decide⟩ (tgt := 20) dX6_off_5 rfl (fun h5 => absurd h5 (by decide)) (fun h5 => ?_)
  refine g_aload0 dX6_off_8 ?_
  refine g_aload0 dX6_off_9 ?_
  refine g_iload1 dX6_off_10 ?_
  refine f_cV1q (pitch_q ho hs0 h hM0 he0) rfl (by decide) rfl oY_X6_pitch oI_X6_pitch lk_X6_303 rfl dX6_off_11 (by omega) (by omega) rfl (Or.inl rfl) (fun σ11 l11 h11 => ?_)
  have el1 := h11.1
  subst el1
  have hs1 := h11.2.1.s hs
  have hcr := wCn_rng ho p
  refine f_cV1w (offOf_m ⟨by omega, by omega⟩) rfl (by decide) rfl oY_X6_offOf oI_X6_offOf lk_X6_306 rfl dX6_off_14 rfl (Or.inl rfl) ?_
  refine g_goto (tgt := 21) dX6_off_17 rfl ?_
  refine g_iretI rfl dX6_off_21 ?_
  exact Fo.ret rfl h11.2.1 h11.2.2
theorem off_r {B : Int} {s : Int → Int} (ho : SOK B s) (hs : σ 93 = s) {p : Int} (hx : R32 p) (h : ¬ (0 ≤ p ∧ p < (2 * ((3 ^ wH s : Nat) : Int)))) : Fo g zX6_off [.ref 92, iv p] σ l (iv 0) 1 := by
  have hs0 : up σ 92 6 0 93 = s := (up_n (by decide)).trans hs
  have hM0 : Md σ (up σ 92 6 0) := md_th (Md.refl σ)
  have he0 : up σ 92 6 0 92 6 = 0 := up_eq
  have hp3 := p3_le ho.h7
  have hp0 := p3_pos (wH s)
  have hn40 := ho.n40
  have hnI := ho.nI
  have hH7 := ho.h7
  have hHI := ho.hI
  have hb4 := ho.halves
  have hb5 := ho.crosses
  refine Fn.of [some (.ref 92), some (iv p)] rfl (by decide) (Nat.le_of_ble_eq_true rfl) rfl ?_
  refine g_aload0 dX6_off_0 ?_
  refine g_iload1 dX6_off_1 ?_
  refine f_cV1x (mayPlay_n ho hs hx h) rfl (by decide) rfl oY_X6_mayPlay oI_X6_mayPlay lk_X6_300 rfl dX6_off_2 rfl (Or.inl rfl) ?_
  refine g_if_eq ⟨by decide, by decide⟩ (tgt := 20) dX6_off_5 rfl (fun h5 => ?_) (fun h5 => absurd h5 (by decide))
  refine g_iconst dX6_off_20 ?_
  refine g_iretI rfl dX6_off_21 ?_
  exact Fo.ret rfl (md_th (Md.refl σ)) up_eq
theorem halves_q {B : Int} {s : Int → Int} (ho : SOK B s) (hs : σ 93 = s) {p : Int} (hx : R32 p) (h : 0 ≤ p ∧ p < (2 * ((3 ^ wH s : Nat) : Int))) : Fo g zX6_halves [.ref 92, iv p] σ l (iv (hvF (fgF ((3 ^ wH s : Nat) : Int) p))) 0 := by
  have hs0 : up σ 92 6 0 93 = s := (up_n (by decide)).trans hs
  have hM0 : Md σ (up σ 92 6 0) := md_th (Md.refl σ)
  have he0 : up σ 92 6 0 92 6 = 0 := up_eq
  have hp3 := p3_le ho.h7
  have hp0 := p3_pos (wH s)
  have hn40 := ho.n40
  have hnI := ho.nI
  have hH7 := ho.h7
  have hHI := ho.hI
  have hb4 := ho.halves
  have hb5 := ho.crosses
  refine Fn.of [some (.ref 92), some (iv p)] rfl (by decide) (Nat.le_of_ble_eq_true rfl) rfl ?_
  refine g_aload0 dX6_halves_0 ?_
  refine g_iload1 dX6_halves_1 ?_
  refine f_cV1x (mayPlay_y ho hs hx h) rfl (by decide) rfl oY_X6_mayPlay oI_X6_mayPlay lk_X6_300 rfl dX6_halves_2 rfl (Or.inl rfl) ?_
  refine g_if_eq ⟨by decide, by decide⟩ (tgt := 17) dX6_halves_5 rfl (fun h5 => absurd h5 (by decide)) (fun h5 => ?_)
  refine g_aload0 dX6_halves_8 ?_
  refine g_iload1 dX6_halves_9 ?_
  refine g_iconst dX6_halves_10 ?_
  refine f_cV2w (many1_m ho hs0 h) rfl (by decide) rfl oY_X6_manyHow oI_X6_manyHow lk_X6_133 rfl dX6_halves_11 rfl (Or.inl rfl) ?_
  refine g_goto (tgt := 18) dX6_halves_14 rfl ?_
  refine g_iretI rfl dX6_halves_18 ?_
  exact Fo.ret rfl hM0 he0
theorem halves_r {B : Int} {s : Int → Int} (ho : SOK B s) (hs : σ 93 = s) {p : Int} (hx : R32 p) (h : ¬ (0 ≤ p ∧ p < (2 * ((3 ^ wH s : Nat) : Int)))) : Fo g zX6_halves [.ref 92, iv p] σ l (iv 0) 1 := by
  have hs0 : up σ 92 6 0 93 = s := (up_n (by decide)).trans hs
  have hM0 : Md σ (up σ 92 6 0) := md_th (Md.refl σ)
  have he0 : up σ 92 6 0 92 6 = 0 := up_eq
  have hp3 := p3_le ho.h7
  have hp0 := p3_pos (wH s)
  have hn40 := ho.n40
  have hnI := ho.nI
  have hH7 := ho.h7
  have hHI := ho.hI
  have hb4 := ho.halves
  have hb5 := ho.crosses
  refine Fn.of [some (.ref 92), some (iv p)] rfl (by decide) (Nat.le_of_ble_eq_true rfl) rfl ?_
  refine g_aload0 dX6_halves_0 ?_
  refine g_iload1 dX6_halves_1 ?_
  refine f_cV1x (mayPlay_n ho hs hx h) rfl (by decide) rfl oY_X6_mayPlay oI_X6_mayPlay lk_X6_300 rfl dX6_halves_2 rfl (Or.inl rfl) ?_
  refine g_if_eq ⟨by decide, by decide⟩ (tgt := 17) dX6_halves_5 rfl (fun h5 => ?_) (fun h5 => absurd h5 (by decide))
  refine g_iconst dX6_halves_17 ?_
  refine g_iretI rfl dX6_halves_18 ?_
  exact Fo.ret rfl (md_th (Md.refl σ)) up_eq
theorem crosses_q {B : Int} {s : Int → Int} (ho : SOK B s) (hs : σ 93 = s) {p : Int} (hx : R32 p) (h : 0 ≤ p ∧ p < (2 * ((3 ^ wH s : Nat) : Int))) : Fo g zX6_crosses [.ref 92, iv p] σ l (iv (crF (fgF ((3 ^ wH s : Nat) : Int) p))) 0 := by
  have hs0 : up σ 92 6 0 93 = s := (up_n (by decide)).trans hs
  have hM0 : Md σ (up σ 92 6 0) := md_th (Md.refl σ)
  have he0 : up σ 92 6 0 92 6 = 0 := up_eq
  have hp3 := p3_le ho.h7
  have hp0 := p3_pos (wH s)
  have hn40 := ho.n40
  have hnI := ho.nI
  have hH7 := ho.h7
  have hHI := ho.hI
  have hb4 := ho.halves
  have hb5 := ho.crosses
  refine Fn.of [some (.ref 92), some (iv p)] rfl (by decide) (Nat.le_of_ble_eq_true rfl) rfl ?_
  refine g_aload0 dX6_crosses_0 ?_
  refine g_iload1 dX6_crosses_1 ?_
  refine f_cV1x (mayPlay_y ho hs hx h) rfl (by decide) rfl oY_X6_mayPlay oI_X6_mayPlay lk_X6_300 rfl dX6_crosses_2 rfl (Or.inl rfl) ?_
  refine g_if_eq ⟨by decide, by decide⟩ (tgt := 16) dX6_crosses_5 rfl (fun h5 => absurd h5 (by decide)) (fun h5 => ?_)
  refine g_aload0 dX6_crosses_8 ?_
  refine g_iload1 dX6_crosses_9 ?_
  refine f_cV1w (cross_m ho hs0 h) rfl (by decide) rfl oY_X6_crossesOf oI_X6_crossesOf lk_X6_136 rfl dX6_crosses_10 rfl (Or.inl rfl) ?_
  refine g_goto (tgt := 17) dX6_crosses_13 rfl ?_
  refine g_iretI rfl dX6_crosses_17 ?_
  exact Fo.ret rfl hM0 he0
theorem crosses_r {B : Int} {s : Int → Int} (ho : SOK B s) (hs : σ 93 = s) {p : Int} (hx : R32 p) (h : ¬ (0 ≤ p ∧ p < (2 * ((3 ^ wH s : Nat) : Int)))) : Fo g zX6_crosses [.ref 92, iv p] σ l (iv 0) 1 := by
  have hs0 : up σ 92 6 0 93 = s := (up_n (by decide)).trans hs
  have hM0 : Md σ (up σ 92 6 0) := md_th (Md.refl σ)
  have he0 : up σ 92 6 0 92 6 = 0 := up_eq
  have hp3 := p3_le ho.h7
  have hp0 := p3_pos (wH s)
  have hn40 := ho.n40
  have hnI := ho.nI
  have hH7 := ho.h7
  have hHI := ho.hI
  have hb4 := ho.halves
  have hb5 := ho.crosses
  refine Fn.of [some (.ref 92), some (iv p)] rfl (by decide) (Nat.le_of_ble_eq_true rfl) rfl ?_
  refine g_aload0 dX6_crosses_0 ?_
  refine g_iload1 dX6_crosses_1 ?_
  refine f_cV1x (mayPlay_n ho hs hx h) rfl (by decide) rfl oY_X6_mayPlay oI_X6_mayPlay lk_X6_300 rfl dX6_crosses_2 rfl (Or.inl rfl) ?_
  refine g_if_eq ⟨by decide, by decide⟩ (tgt := 16) dX6_crosses_5 rfl (fun h5 => ?_) (fun h5 => absurd h5 (by decide))
  refine g_iconst dX6_crosses_16 ?_
  refine g_iretI rfl dX6_crosses_17 ?_
  exact Fo.ret rfl (md_th (Md.refl σ)) up_eq
theorem isEasy_q {B : Int} {s : Int → Int} (ho : SOK B s) (hs : σ 93 = s) {p : Int} (hx : R32 p) (h : 0 ≤ p ∧ p < (2 * ((3 ^ wH s : Nat) : Int))) : Fo g zX6_isEasy [.ref 92, iv p] σ l (bv (hvF (fgF ((3 ^ wH s : Nat) : Int) p) ≤ s 4 ∧ crF (fgF ((3 ^ wH s : Nat) : Int) p) ≤ s 5)) 0 := by
  have hs0 : up σ 92 6 0 93 = s := (up_n (by decide)).trans hs
  have hM0 : Md σ (up σ 92 6 0) := md_th (Md.refl σ)
  have he0 : up σ 92 6 0 92 6 = 0 := up_eq
  have hp3 := p3_le ho.h7
  have hp0 := p3_pos (wH s)
  have hn40 := ho.n40
  have hnI := ho.nI
  have hH7 := ho.h7
  have hHI := ho.hI
  have hb4 := ho.halves
  have hb5 := ho.crosses
  have hv := hvF_rng (fgF ((3 ^ wH s : Nat) : Int) p)
  have hcr := crF_rng (fgF ((3 ^ wH s : Nat) : Int) p)
  refine Fn.of [some (.ref 92), some (iv p)] rfl (by decide) (Nat.le_of_ble_eq_true rfl) rfl ?_
  refine g_aload0 dX6_isEasy_0 ?_
  refine g_iload1 dX6_isEasy_1 ?_
  refine f_cV1x (mayPlay_y ho hs hx h) rfl (by decide) rfl oY_X6_mayPlay oI_X6_mayPlay lk_X6_300 rfl dX6_isEasy_2 rfl (Or.inl rfl) ?_
  refine g_if_eq ⟨by decide, by decide⟩ (tgt := 41) dX6_isEasy_5 rfl (fun h5 => absurd h5 (by decide)) (fun h5 => ?_)
  refine g_aload0 dX6_isEasy_8 ?_
  refine g_iload1 dX6_isEasy_9 ?_
  refine g_iconst dX6_isEasy_10 ?_
  refine f_cV2w (many1_m ho hs0 h) rfl (by decide) rfl oY_X6_manyHow oI_X6_manyHow lk_X6_133 rfl dX6_isEasy_11 rfl (Or.inl rfl) ?_
  refine g_aload0 dX6_isEasy_14 ?_
  refine f_getr (r := 93) rfl (by decide) rfl rfl fl_X6_7 dX6_isEasy_15 ?_
  try rw [hs0]
  refine g_iconst dX6_isEasy_18 ?_
  refine f_iald rfl (by decide) ⟨by omega, by show _ < ((67 : Nat) : Int); omega⟩ dX6_isEasy_19 ?_
  try rw [hs0]
  refine g_icmp_gt ⟨by omega, by omega⟩ ⟨by omega, by omega⟩ (tgt := 41) dX6_isEasy_20 rfl (fun h20 => ?_) (fun h20 => ?_)
  · refine g_iconst dX6_isEasy_41 ?_
    refine g_iretB (Or.inl rfl) rfl dX6_isEasy_42 ?_
    first
      | exact Fo.ret (bvT ⟨by omega, by omega⟩).symm hM0 he0
      | exact Fo.ret (bvF (fun z => by omega)).symm hM0 he0
  · refine g_aload0 dX6_isEasy_23 ?_
    refine g_iload1 dX6_isEasy_24 ?_
    refine f_cV1w (cross_m ho hs0 h) rfl (by decide) rfl oY_X6_crossesOf oI_X6_crossesOf lk_X6_136 rfl dX6_isEasy_25 rfl (Or.inl rfl) ?_
    refine g_aload0 dX6_isEasy_28 ?_
    refine f_getr (r := 93) rfl (by decide) rfl rfl fl_X6_7 dX6_isEasy_29 ?_
    try rw [hs0]
    refine g_iconst dX6_isEasy_32 ?_
    refine f_iald rfl (by decide) ⟨by omega, by show _ < ((67 : Nat) : Int); omega⟩ dX6_isEasy_33 ?_
    try rw [hs0]
    refine g_icmp_gt ⟨by omega, by omega⟩ ⟨by omega, by omega⟩ (tgt := 41) dX6_isEasy_34 rfl (fun h34 => ?_) (fun h34 => ?_)
    · refine g_iconst dX6_isEasy_41 ?_
      refine g_iretB (Or.inl rfl) rfl dX6_isEasy_42 ?_
      first
        | exact Fo.ret (bvT ⟨by omega, by omega⟩).symm hM0 he0
        | exact Fo.ret (bvF (fun z => by omega)).symm hM0 he0
    · refine g_iconst dX6_isEasy_37 ?_
      refine g_goto (tgt := 42) dX6_isEasy_38 rfl ?_
      refine g_iretB (Or.inr rfl) rfl dX6_isEasy_42 ?_
      first
        | exact Fo.ret (bvT ⟨by omega, by omega⟩).symm hM0 he0
        | exact Fo.ret (bvF (fun z => by omega)).symm hM0 he0
theorem isEasy_r {B : Int} {s : Int → Int} (ho : SOK B s) (hs : σ 93 = s) {p : Int} (hx : R32 p) (h : ¬ (0 ≤ p ∧ p < (2 * ((3 ^ wH s : Nat) : Int)))) : Fo g zX6_isEasy [.ref 92, iv p] σ l (iv 0) 1 := by
  have hs0 : up σ 92 6 0 93 = s := (up_n (by decide)).trans hs
  have hM0 : Md σ (up σ 92 6 0) := md_th (Md.refl σ)
  have he0 : up σ 92 6 0 92 6 = 0 := up_eq
  have hp3 := p3_le ho.h7
  have hp0 := p3_pos (wH s)
  have hn40 := ho.n40
  have hnI := ho.nI
  have hH7 := ho.h7
  have hHI := ho.hI
  have hb4 := ho.halves
  have hb5 := ho.crosses
  refine Fn.of [some (.ref 92), some (iv p)] rfl (by decide) (Nat.le_of_ble_eq_true rfl) rfl ?_
  refine g_aload0 dX6_isEasy_0 ?_
  refine g_iload1 dX6_isEasy_1 ?_
  refine f_cV1x (mayPlay_n ho hs hx h) rfl (by decide) rfl oY_X6_mayPlay oI_X6_mayPlay lk_X6_300 rfl dX6_isEasy_2 rfl (Or.inl rfl) ?_
  refine g_if_eq ⟨by decide, by decide⟩ (tgt := 41) dX6_isEasy_5 rfl (fun h5 => ?_) (fun h5 => absurd h5 (by decide))
  refine g_iconst dX6_isEasy_41 ?_
  refine g_iretB (Or.inl rfl) rfl dX6_isEasy_42 ?_
  exact Fo.ret rfl (md_th (Md.refl σ)) up_eq
theorem plays_q {B : Int} {s : Int → Int} (ho : SOK B s) (hs : σ 93 = s) {p : Int} (hx : R32 p) (h : 0 ≤ p ∧ p ≤ 24) : Fo g zX6_plays [.ref 92, iv p] σ l (iv ((wEt s p).length : Int)) 0 := by
  have hs0 : up σ 92 6 0 93 = s := (up_n (by decide)).trans hs
  have hM0 : Md σ (up σ 92 6 0) := md_th (Md.refl σ)
  have he0 : up σ 92 6 0 92 6 = 0 := up_eq
  have hp3 := p3_le ho.h7
  have hp0 := p3_pos (wH s)
  have hn40 := ho.n40
  have hnI := ho.nI
  have hH7 := ho.h7
  have hHI := ho.hI
  have hb4 := ho.halves
  have hb5 := ho.crosses
  refine Fn.of [some (.ref 92), some (iv p)] rfl (by decide) (Nat.le_of_ble_eq_true rfl) rfl ?_
  refine g_aload0 dX6_plays_0 ?_
  refine g_iload1 dX6_plays_1 ?_
  refine f_cV1x (mayTone_y hx h) rfl (by decide) rfl oY_X6_mayTone oI_X6_mayTone lk_X6_309 rfl dX6_plays_2 rfl (Or.inl rfl) ?_
  refine g_if_ne ⟨by decide, by decide⟩ (tgt := 10) dX6_plays_5 rfl (fun h5 => ?_) (fun h5 => absurd h5 (by decide))
  refine g_aload0 dX6_plays_10 ?_
  refine f_cV0m (laysP ho hs0) rfl (by decide) rfl oY_X6_laysPlays oI_X6_laysPlays lk_X6_177 rfl dX6_plays_11 (by omega) (by omega) rfl (Or.inl rfl) (fun σ11 l11 h11 => ?_)
  have el1 := h11.1
  subst el1
  have hM1 := hM0.trans h11.2.1
  have he1 : σ11 92 6 = 0 := by rw [h11.2.2.2]; exact he0
  have hL1 := h11.2.2.1
  have hs1 := hM1.s hs
  refine g_aload0 dX6_plays_14 ?_
  refine g_iload1 dX6_plays_15 ?_
  refine f_cV1w (easyMany_m ho hs1 hL1 (by omega)) rfl (by decide) rfl oY_X6_easyMany oI_X6_easyMany lk_X6_312 rfl dX6_plays_16 rfl (Or.inl rfl) ?_
  refine g_iretI rfl dX6_plays_19 ?_
  exact Fo.ret rfl hM1 he1
theorem plays_r {B : Int} {s : Int → Int} (ho : SOK B s) (hs : σ 93 = s) {p : Int} (hx : R32 p) (h : ¬ (0 ≤ p ∧ p ≤ 24)) : Fo g zX6_plays [.ref 92, iv p] σ l (iv 0) 1 := by
  have hs0 : up σ 92 6 0 93 = s := (up_n (by decide)).trans hs
  have hM0 : Md σ (up σ 92 6 0) := md_th (Md.refl σ)
  have he0 : up σ 92 6 0 92 6 = 0 := up_eq
  have hp3 := p3_le ho.h7
  have hp0 := p3_pos (wH s)
  have hn40 := ho.n40
  have hnI := ho.nI
  have hH7 := ho.h7
  have hHI := ho.hI
  have hb4 := ho.halves
  have hb5 := ho.crosses
  refine Fn.of [some (.ref 92), some (iv p)] rfl (by decide) (Nat.le_of_ble_eq_true rfl) rfl ?_
  refine g_aload0 dX6_plays_0 ?_
  refine g_iload1 dX6_plays_1 ?_
  refine f_cV1x (mayTone_n hx h) rfl (by decide) rfl oY_X6_mayTone oI_X6_mayTone lk_X6_309 rfl dX6_plays_2 rfl (Or.inl rfl) ?_
  refine g_if_ne ⟨by decide, by decide⟩ (tgt := 10) dX6_plays_5 rfl (fun h5 => absurd h5 (by decide)) (fun h5 => ?_)
  refine g_iconst dX6_plays_8 ?_
  refine g_iretI rfl dX6_plays_9 ?_
  exact Fo.ret rfl (md_th (Md.refl σ)) up_eq
theorem playOf_q {B : Int} {s : Int → Int} (ho : SOK B s) (hs : σ 93 = s) {p x : Int} (hx : R32 p) (hi : R32 x) (h : 0 ≤ p ∧ p ≤ 24) : Fo g zX6_playOf [.ref 92, iv p, iv x] σ l (iv (if 0 ≤ x ∧ x < ((wEt s p).length : Int) then ((wEt s p).getD x.toNat 0 : Nat) else -1)) 0 := by
  have hs0 : up σ 92 6 0 93 = s := (up_n (by decide)).trans hs
  have hM0 : Md σ (up σ 92 6 0) := md_th (Md.refl σ)
  have he0 : up σ 92 6 0 92 6 = 0 := up_eq
  have hp3 := p3_le ho.h7
  have hp0 := p3_pos (wH s)
  have hn40 := ho.n40
  have hnI := ho.nI
  have hH7 := ho.h7
  have hHI := ho.hI
  have hb4 := ho.halves
  have hb5 := ho.crosses
  refine Fn.of [some (.ref 92), some (iv p), some (iv x)] rfl (by decide) (Nat.le_of_ble_eq_true rfl) rfl ?_
  refine g_aload0 dX6_playOf_0 ?_
  refine g_iload1 dX6_playOf_1 ?_
  refine f_cV1x (mayTone_y hx h) rfl (by decide) rfl oY_X6_mayTone oI_X6_mayTone lk_X6_309 rfl dX6_playOf_2 rfl (Or.inl rfl) ?_
  refine g_if_ne ⟨by decide, by decide⟩ (tgt := 10) dX6_playOf_5 rfl (fun h5 => ?_) (fun h5 => absurd h5 (by decide))
  refine g_aload0 dX6_playOf_10 ?_
  refine f_cV0m (laysP ho hs0) rfl (by decide) rfl oY_X6_laysPlays oI_X6_laysPlays lk_X6_177 rfl dX6_playOf_11 (by omega) (by omega) rfl (Or.inl rfl) (fun σ11 l11 h11 => ?_)
  have el1 := h11.1
  subst el1
  have hM1 := hM0.trans h11.2.1
  have he1 : σ11 92 6 = 0 := by rw [h11.2.2.2]; exact he0
  have hL1 := h11.2.2.1
  have hs1 := hM1.s hs
  refine g_aload0 dX6_playOf_14 ?_
  refine g_iload1 dX6_playOf_15 ?_
  refine g_iload2 dX6_playOf_16 ?_
  refine f_cV2w (easyAt_m ho hs1 hL1 (by omega) hi) rfl (by decide) rfl oY_X6_easyAt oI_X6_easyAt lk_X6_315 rfl dX6_playOf_17 rfl (Or.inl rfl) ?_
  refine g_iretI rfl dX6_playOf_20 ?_
  exact Fo.ret rfl hM1 he1
theorem playOf_r {B : Int} {s : Int → Int} (ho : SOK B s) (hs : σ 93 = s) {p x : Int} (hx : R32 p) (hi : R32 x) (h : ¬ (0 ≤ p ∧ p ≤ 24)) : Fo g zX6_playOf [.ref 92, iv p, iv x] σ l (iv 0) 1 := by
  have hs0 : up σ 92 6 0 93 = s := (up_n (by decide)).trans hs
  have hM0 : Md σ (up σ 92 6 0) := md_th (Md.refl σ)
  have he0 : up σ 92 6 0 92 6 = 0 := up_eq
  have hp3 := p3_le ho.h7
  have hp0 := p3_pos (wH s)
  have hn40 := ho.n40
  have hnI := ho.nI
  have hH7 := ho.h7
  have hHI := ho.hI
  have hb4 := ho.halves
  have hb5 := ho.crosses
  refine Fn.of [some (.ref 92), some (iv p), some (iv x)] rfl (by decide) (Nat.le_of_ble_eq_true rfl) rfl ?_
  refine g_aload0 dX6_playOf_0 ?_
  refine g_iload1 dX6_playOf_1 ?_
  refine f_cV1x (mayTone_n hx h) rfl (by decide) rfl oY_X6_mayTone oI_X6_mayTone lk_X6_309 rfl dX6_playOf_2 rfl (Or.inl rfl) ?_
  refine g_if_ne ⟨by decide, by decide⟩ (tgt := 10) dX6_playOf_5 rfl (fun h5 => absurd h5 (by decide)) (fun h5 => ?_)
  refine g_iconst dX6_playOf_8 ?_
  refine g_iretI rfl dX6_playOf_9 ?_
  exact Fo.ret rfl (md_th (Md.refl σ)) up_eq
theorem change_q {B : Int} {s : Int → Int} (ho : SOK B s) (hs : σ 93 = s) {p q : Int} (hx : R32 p) (hy : R32 q) (h : (0 ≤ p ∧ p < (2 * ((3 ^ wH s : Nat) : Int))) ∧ 0 ≤ q ∧ q < (2 * ((3 ^ wH s : Nat) : Int))) : Fo g zX6_change [.ref 92, iv p, iv q] σ l (iv (wCo s p q)) 0 := by
  have hs0 : up σ 92 6 0 93 = s := (up_n (by decide)).trans hs
  have hM0 : Md σ (up σ 92 6 0) := md_th (Md.refl σ)
  have he0 : up σ 92 6 0 92 6 = 0 := up_eq
  have hp3 := p3_le ho.h7
  have hp0 := p3_pos (wH s)
  have hn40 := ho.n40
  have hnI := ho.nI
  have hH7 := ho.h7
  have hHI := ho.hI
  have hb4 := ho.halves
  have hb5 := ho.crosses
  refine Fn.of [some (.ref 92), some (iv p), some (iv q)] rfl (by decide) (Nat.le_of_ble_eq_true rfl) rfl ?_
  refine g_aload0 dX6_change_0 ?_
  refine g_iload1 dX6_change_1 ?_
  refine g_iload2 dX6_change_2 ?_
  refine f_cV2x (mayPlays_y ho hs hx hy h) rfl (by decide) rfl oY_X6_mayPlays oI_X6_mayPlays lk_X6_321 rfl dX6_change_3 rfl (Or.inl rfl) ?_
  refine g_if_eq ⟨by decide, by decide⟩ (tgt := 18) dX6_change_6 rfl (fun h6 => absurd h6 (by decide)) (fun h6 => ?_)
  refine g_aload0 dX6_change_9 ?_
  refine g_iload1 dX6_change_10 ?_
  refine g_iload2 dX6_change_11 ?_
  refine f_cV2w (cost_m ho hs0 h.1 h.2) rfl (by decide) rfl oY_X6_costOf oI_X6_costOf lk_X6_160 rfl dX6_change_12 rfl (Or.inl rfl) ?_
  refine g_goto (tgt := 19) dX6_change_15 rfl ?_
  refine g_iretI rfl dX6_change_19 ?_
  exact Fo.ret rfl hM0 he0
theorem change_r {B : Int} {s : Int → Int} (ho : SOK B s) (hs : σ 93 = s) {p q : Int} (hx : R32 p) (hy : R32 q) (h : ¬ ((0 ≤ p ∧ p < (2 * ((3 ^ wH s : Nat) : Int))) ∧ 0 ≤ q ∧ q < (2 * ((3 ^ wH s : Nat) : Int)))) : Fo g zX6_change [.ref 92, iv p, iv q] σ l (iv 0) 1 := by
  have hs0 : up σ 92 6 0 93 = s := (up_n (by decide)).trans hs
  have hM0 : Md σ (up σ 92 6 0) := md_th (Md.refl σ)
  have he0 : up σ 92 6 0 92 6 = 0 := up_eq
  have hp3 := p3_le ho.h7
  have hp0 := p3_pos (wH s)
  have hn40 := ho.n40
  have hnI := ho.nI
  have hH7 := ho.h7
  have hHI := ho.hI
  have hb4 := ho.halves
  have hb5 := ho.crosses
  refine Fn.of [some (.ref 92), some (iv p), some (iv q)] rfl (by decide) (Nat.le_of_ble_eq_true rfl) rfl ?_
  refine g_aload0 dX6_change_0 ?_
  refine g_iload1 dX6_change_1 ?_
  refine g_iload2 dX6_change_2 ?_
  refine f_cV2x (mayPlays_n ho hs hx hy h) rfl (by decide) rfl oY_X6_mayPlays oI_X6_mayPlays lk_X6_321 rfl dX6_change_3 rfl (Or.inl rfl) ?_
  refine g_if_eq ⟨by decide, by decide⟩ (tgt := 18) dX6_change_6 rfl (fun h6 => ?_) (fun h6 => absurd h6 (by decide))
  refine g_iconst dX6_change_18 ?_
  refine g_iretI rfl dX6_change_19 ?_
  exact Fo.ret rfl (md_th (Md.refl σ)) up_eq
theorem fingers_q {B : Int} {s : Int → Int} (ho : SOK B s) (hs : σ 93 = s) {p q : Int} (hx : R32 p) (hy : R32 q) (h : (0 ≤ p ∧ p < (2 * ((3 ^ wH s : Nat) : Int))) ∧ 0 ≤ q ∧ q < (2 * ((3 ^ wH s : Nat) : Int))) : Fo g zX6_fingers [.ref 92, iv p, iv q] σ l (iv (dC 1 1 (wH s) p q)) 0 := by
  have hs0 : up σ 92 6 0 93 = s := (up_n (by decide)).trans hs
  have hM0 : Md σ (up σ 92 6 0) := md_th (Md.refl σ)
  have he0 : up σ 92 6 0 92 6 = 0 := up_eq
  have hp3 := p3_le ho.h7
  have hp0 := p3_pos (wH s)
  have hn40 := ho.n40
  have hnI := ho.nI
  have hH7 := ho.h7
  have hHI := ho.hI
  have hb4 := ho.halves
  have hb5 := ho.crosses
  refine Fn.of [some (.ref 92), some (iv p), some (iv q)] rfl (by decide) (Nat.le_of_ble_eq_true rfl) rfl ?_
  refine g_aload0 dX6_fingers_0 ?_
  refine g_iload1 dX6_fingers_1 ?_
  refine g_iload2 dX6_fingers_2 ?_
  refine f_cV2x (mayPlays_y ho hs hx hy h) rfl (by decide) rfl oY_X6_mayPlays oI_X6_mayPlays lk_X6_321 rfl dX6_fingers_3 rfl (Or.inl rfl) ?_
  refine g_if_eq ⟨by decide, by decide⟩ (tgt := 18) dX6_fingers_6 rfl (fun h6 => absurd h6 (by decide)) (fun h6 => ?_)
  refine g_aload0 dX6_fingers_9 ?_
  refine g_iload1 dX6_fingers_10 ?_
  refine g_iload2 dX6_fingers_11 ?_
  refine f_cV2w (fingers_m ho hs0 h.1 h.2) rfl (by decide) rfl oY_X6_fingersOf oI_X6_fingersOf lk_X6_324 rfl dX6_fingers_12 rfl (Or.inl rfl) ?_
  refine g_goto (tgt := 19) dX6_fingers_15 rfl ?_
  refine g_iretI rfl dX6_fingers_19 ?_
  exact Fo.ret rfl hM0 he0
theorem fingers_r {B : Int} {s : Int → Int} (ho : SOK B s) (hs : σ 93 = s) {p q : Int} (hx : R32 p) (hy : R32 q) (h : ¬ ((0 ≤ p ∧ p < (2 * ((3 ^ wH s : Nat) : Int))) ∧ 0 ≤ q ∧ q < (2 * ((3 ^ wH s : Nat) : Int)))) : Fo g zX6_fingers [.ref 92, iv p, iv q] σ l (iv 0) 1 := by
  have hs0 : up σ 92 6 0 93 = s := (up_n (by decide)).trans hs
  have hM0 : Md σ (up σ 92 6 0) := md_th (Md.refl σ)
  have he0 : up σ 92 6 0 92 6 = 0 := up_eq
  have hp3 := p3_le ho.h7
  have hp0 := p3_pos (wH s)
  have hn40 := ho.n40
  have hnI := ho.nI
  have hH7 := ho.h7
  have hHI := ho.hI
  have hb4 := ho.halves
  have hb5 := ho.crosses
  refine Fn.of [some (.ref 92), some (iv p), some (iv q)] rfl (by decide) (Nat.le_of_ble_eq_true rfl) rfl ?_
  refine g_aload0 dX6_fingers_0 ?_
  refine g_iload1 dX6_fingers_1 ?_
  refine g_iload2 dX6_fingers_2 ?_
  refine f_cV2x (mayPlays_n ho hs hx hy h) rfl (by decide) rfl oY_X6_mayPlays oI_X6_mayPlays lk_X6_321 rfl dX6_fingers_3 rfl (Or.inl rfl) ?_
  refine g_if_eq ⟨by decide, by decide⟩ (tgt := 18) dX6_fingers_6 rfl (fun h6 => ?_) (fun h6 => absurd h6 (by decide))
  refine g_iconst dX6_fingers_18 ?_
  refine g_iretI rfl dX6_fingers_19 ?_
  exact Fo.ret rfl (md_th (Md.refl σ)) up_eq
theorem note_q {B : Int} {s : Int → Int} (ho : SOK B s) (hs : σ 93 = s) {p : Int} (hx : R32 p) (h : 0 ≤ p ∧ p < s 9) : Fo g zX6_note [.ref 92, iv p] σ l (iv (wTu s p)) 0 := by
  have hs0 : up σ 92 6 0 93 = s := (up_n (by decide)).trans hs
  have hM0 : Md σ (up σ 92 6 0) := md_th (Md.refl σ)
  have he0 : up σ 92 6 0 92 6 = 0 := up_eq
  have hp3 := p3_le ho.h7
  have hp0 := p3_pos (wH s)
  have hn40 := ho.n40
  have hnI := ho.nI
  have hH7 := ho.h7
  have hHI := ho.hI
  have hb4 := ho.halves
  have hb5 := ho.crosses
  have hto : Fw g zX6_toneAt [.ref 92, iv p] (up σ 92 6 0) l (iv (wTu s p)) := by
    have h1 := toneAt_m (g := g) (l := l) hs0 (k := p.toNat) (by omega)
    rw [Int.toNat_of_nonneg h.1] at h1
    exact h1
  refine Fn.of [some (.ref 92), some (iv p)] rfl (by decide) (Nat.le_of_ble_eq_true rfl) rfl ?_
  refine g_aload0 dX6_note_0 ?_
  refine g_iload1 dX6_note_1 ?_
  refine f_cV1x (mayNote_y ho hs hx h) rfl (by decide) rfl oY_X6_mayNote oI_X6_mayNote lk_X6_330 rfl dX6_note_2 rfl (Or.inl rfl) ?_
  refine g_if_eq ⟨by decide, by decide⟩ (tgt := 16) dX6_note_5 rfl (fun h5 => absurd h5 (by decide)) (fun h5 => ?_)
  refine g_aload0 dX6_note_8 ?_
  refine g_iload1 dX6_note_9 ?_
  refine f_cV1w (hto) rfl (by decide) rfl oY_X6_toneAt oI_X6_toneAt lk_X6_143 rfl dX6_note_10 rfl (Or.inl rfl) ?_
  refine g_goto (tgt := 17) dX6_note_13 rfl ?_
  refine g_iretI rfl dX6_note_17 ?_
  exact Fo.ret rfl hM0 he0
theorem note_r {B : Int} {s : Int → Int} (ho : SOK B s) (hs : σ 93 = s) {p : Int} (hx : R32 p) (h : ¬ (0 ≤ p ∧ p < s 9)) : Fo g zX6_note [.ref 92, iv p] σ l (iv 0) 1 := by
  have hs0 : up σ 92 6 0 93 = s := (up_n (by decide)).trans hs
  have hM0 : Md σ (up σ 92 6 0) := md_th (Md.refl σ)
  have he0 : up σ 92 6 0 92 6 = 0 := up_eq
  have hp3 := p3_le ho.h7
  have hp0 := p3_pos (wH s)
  have hn40 := ho.n40
  have hnI := ho.nI
  have hH7 := ho.h7
  have hHI := ho.hI
  have hb4 := ho.halves
  have hb5 := ho.crosses
  refine Fn.of [some (.ref 92), some (iv p)] rfl (by decide) (Nat.le_of_ble_eq_true rfl) rfl ?_
  refine g_aload0 dX6_note_0 ?_
  refine g_iload1 dX6_note_1 ?_
  refine f_cV1x (mayNote_n ho hs hx h) rfl (by decide) rfl oY_X6_mayNote oI_X6_mayNote lk_X6_330 rfl dX6_note_2 rfl (Or.inl rfl) ?_
  refine g_if_eq ⟨by decide, by decide⟩ (tgt := 16) dX6_note_5 rfl (fun h5 => ?_) (fun h5 => absurd h5 (by decide))
  refine g_iconst dX6_note_16 ?_
  refine g_iretI rfl dX6_note_17 ?_
  exact Fo.ret rfl (md_th (Md.refl σ)) up_eq
end C73
