/-! Fingerings.layLengths, laySteps, pitchOf -/
section C24
variable {g : gT} {σ : sT} {l : Nat → Nat}
/-- what m holes, from the last one on, leave of the length; r their covers as a number -/
def Lq (b : Int) (pl sz : Int → Int) (w : Int) (H : Nat) : Nat → Int → Int
  | 0, _ => w
  | m + 1, r => if r % 3 = 2 then Lq b pl sz w H m (r / 3) else lenBy b (pl ((H : Int) - 1 - m)) (if r % 3 = 0 then sz ((H : Int) - 1 - m) else (sz ((H : Int) - 1 - m) + 1) / 2) (Lq b pl sz w H m (r / 3))
theorem lenBy_rng {b pl st len : Int} (hp : 0 ≤ pl) (hs : 0 ≤ st) (hl : 0 ≤ len) (hb : 0 ≤ b) : 0 ≤ lenBy b pl st len ∧ lenBy b pl st len ≤ len := by
  have hbb : 0 ≤ 5 * b * b := Int.mul_nonneg (by omega) hb
  have hq := @quoF_rng (5 * b * b) st hbb
  unfold lenBy
  split
  · rename_i h
    have h2 := @quoF_rng (len - (10 * pl + quoF (5 * b * b) st)) (1 + st) (by omega)
    omega
  · omega
/-- the state's numbers are as they may be -/
def okB (b : Int) (pl sz : Int → Int) (H : Nat) : Prop := 5 ≤ b ∧ b ≤ 20 ∧ H ≤ 7 ∧ ∀ k : Int, 0 ≤ k → k < H → 1 ≤ pl k ∧ pl k ≤ 600 ∧ 2 ≤ sz k ∧ sz k ≤ 15
theorem Lq_rng {b : Int} {pl sz : Int → Int} {w : Int} {H : Nat} (hB : okB b pl sz H) (hw : 0 ≤ w) : ∀ m, m ≤ H → ∀ r, 0 ≤ Lq b pl sz w H m r ∧ Lq b pl sz w H m r ≤ w := by
  intro m
  induction m with
  | zero => intro _ r; exact ⟨hw, Int.le_refl _⟩
  | succ m ih =>
    intro hm r
    have h1 := ih (by omega) (r / 3)
    have h2 := hB.2.2.2 ((H : Int) - 1 - m) (by omega) (by omega)
    have hb := hB.1
    unfold Lq
    split
    · exact h1
    · have h3 := lenBy_rng (b := b) (pl := pl ((H : Int) - 1 - m)) (st := if r % 3 = 0 then sz ((H : Int) - 1 - m) else (sz ((H : Int) - 1 - m) + 1) / 2) (len := Lq b pl sz w H m (r / 3)) (by omega) (by split <;> omega) h1.1 (by omega)
      omega
theorem Lq_0 {b : Int} {pl sz : Int → Int} {w : Int} {H m : Nat} {t : Int} : Lq b pl sz w H (m + 1) (3 * t) = lenBy b (pl ((H : Int) - 1 - m)) (sz ((H : Int) - 1 - m)) (Lq b pl sz w H m t) := by
  rw [Lq, show 3 * t % 3 = 0 from by omega, show 3 * t / 3 = t from by omega, if_neg (by decide), if_pos rfl]
theorem Lq_1 {b : Int} {pl sz : Int → Int} {w : Int} {H m : Nat} {t : Int} : Lq b pl sz w H (m + 1) (3 * t + 1) = lenBy b (pl ((H : Int) - 1 - m)) ((sz ((H : Int) - 1 - m) + 1) / 2) (Lq b pl sz w H m t) := by
  rw [Lq, show (3 * t + 1) % 3 = 1 from by omega, show (3 * t + 1) / 3 = t from by omega, if_neg (by decide), if_neg (by decide)]
theorem Lq_2 {b : Int} {pl sz : Int → Int} {w : Int} {H m : Nat} {t : Int} : Lq b pl sz w H (m + 1) (3 * t + 2) = Lq b pl sz w H m t := by
  rw [Lq, show (3 * t + 2) % 3 = 2 from by omega, show (3 * t + 2) / 3 = t from by omega, if_pos rfl]
theorem LI_step {f : Int → Int} {Q t N v0 v1 v2 : Int} {A B : Int → Int} (hP : 0 < Q) (h1 : ∀ r, 0 ≤ r → r < 3 * t → f (Q * r) = A r) (h2 : ∀ q, t ≤ q → q < N → f (Q * (3 * q)) = B q) (e0 : v0 = A (3 * t)) (e1 : v1 = A (3 * t + 1)) (e2 : v2 = A (3 * t + 2)) :
    (∀ r, 0 ≤ r → r < 3 * (t + 1) → (fun b => if b = Q * (3 * t) + 2 * Q then v2 else if b = Q * (3 * t) + Q then v1 else if b = Q * (3 * t) then v0 else f b) (Q * r) = A r) ∧ (∀ q, t + 1 ≤ q → q < N → (fun b => if b = Q * (3 * t) + 2 * Q then v2 else if b = Q * (3 * t) + Q then v1 else if b = Q * (3 * t) then v0 else f b) (Q * (3 * q)) = B q) := by
  have cmp : ∀ x y : Int, x < y → Q * x < Q * y := fun x y h => Int.mul_lt_mul_of_pos_left h hP
  have a1 : Q * (3 * t + 1) = Q * (3 * t) + Q := by rw [Int.mul_add, Int.mul_one]
  have a2 : Q * (3 * t + 2) = Q * (3 * t) + 2 * Q := by rw [Int.mul_add]; omega
  refine ⟨fun r h0 hr => ?_, fun q h0 hq => ?_⟩
  · dsimp only
    by_cases c2 : r = 3 * t + 2
    · rw [c2, if_pos a2]; exact e2
    · by_cases c1 : r = 3 * t + 1
      · rw [c1, if_neg (by omega), if_pos a1]; exact e1
      · by_cases c0 : r = 3 * t
        · rw [c0, if_neg (by omega), if_neg (by omega), if_pos rfl]; exact e0
        · have := cmp r (3 * t) (by omega)
          rw [if_neg (by omega), if_neg (by omega), if_neg (by omega)]
          exact h1 r h0 (by omega)
  · dsimp only
    have := cmp (3 * t + 2) (3 * q) (by omega)
    rw [if_neg (by omega), if_neg (by omega), if_neg (by omega)]
    exact h2 q (by omega) hq
theorem up3 {τ : sT} {j Q v0 v1 v2 : Int} : up (up (up τ 21 j v0) 21 (j + Q) v1) 21 (j + 2 * Q) v2 21 = fun b => if b = j + 2 * Q then v2 else if b = j + Q then v1 else if b = j then v0 else τ 21 b := by
  rw [up_fun, up_fun, up_fun]
theorem p3_split {H m : Nat} (h : m < H) : ((3 ^ H : Nat) : Int) = ((3 ^ (H - 1 - m) : Nat) : Int) * (3 * ((3 ^ m : Nat) : Int)) := by
  have e : H = (H - 1 - m) + (m + 1) := by omega
  have h1 : 3 ^ H = 3 ^ (H - 1 - m) * 3 ^ (m + 1) := by rw [← Nat.pow_add, ← e]
  rw [h1, Nat.pow_succ]
  push_cast
  rw [Int.mul_comm (3 ^ m : Int) 3]
/-- the inner loop -/
theorem layLen_in {k n : Nat} {Ψ : mO → sT → (Nat → Nat) → Prop} {H m : Nat} {w : Int} (hm : m < H) (hB : okB (σ 1 1) (σ 2) (σ 3) H) (hw : 0 ≤ w ∧ w ≤ 100000) (hcnt : σ 17 0 = ((3 ^ H : Nat) : Int)) (hln : ((3 ^ H : Nat) : Int) ≤ (ln l 21 : Int)) {a8 : Option Value}
    (kont : ∀ τ j a8, (∀ a, a ≠ 21 → τ a = σ a) → (∀ r, 0 ≤ r → r < ((3 ^ (m + 1) : Nat) : Int) → τ 21 (((3 ^ (H - 1 - m) : Nat) : Int) * r) = Lq (σ 1 1) (σ 2) (σ 3) w H (m + 1) r) → FW g zX1_layLengths k n Ψ 155 [some (.ref 17), some (.ref 1), some (iv w), some (iv ((H : Int) - 1 - m)), some (iv ((3 ^ (H - 1 - m) : Nat) : Int)), some (iv (σ 3 ((H : Int) - 1 - m))), some (iv (σ 2 ((H : Int) - 1 - m))), some (iv j), a8] [] τ l) :
    ∀ t : Nat, t ≤ 3 ^ m → ∀ (j : Int) (τ : sT) (a8 : Option Value), j = ((3 ^ (H - 1 - m) : Nat) : Int) * (3 * t) → (∀ a, a ≠ 21 → τ a = σ a) → (∀ r, 0 ≤ r → r < 3 * (t : Int) → τ 21 (((3 ^ (H - 1 - m) : Nat) : Int) * r) = Lq (σ 1 1) (σ 2) (σ 3) w H (m + 1) r) → (∀ q, (t : Int) ≤ q → q < ((3 ^ m : Nat) : Int) → τ 21 (((3 ^ (H - 1 - m) : Nat) : Int) * (3 * q)) = Lq (σ 1 1) (σ 2) (σ 3) w H m q) →
    FW g zX1_layLengths k n Ψ 56 [some (.ref 17), some (.ref 1), some (iv w), some (iv ((H : Int) - 1 - m)), some (iv ((3 ^ (H - 1 - m) : Nat) : Int)), some (iv (σ 3 ((H : Int) - 1 - m))), some (iv (σ 2 ((H : Int) - 1 - m))), some (iv j), a8] [] τ l := by
  have hP0 := p3_pos (H - 1 - m)
  have hPle := p3_le (h := H - 1 - m) (by have := hB.2.2.1; omega)
  have hHle := p3_le (h := H) hB.2.2.1
  have hsp := p3_split hm
  have hk := hB.2.2.2 ((H : Int) - 1 - m) (by omega) (by omega)
  have hb1 := hB.1
  have hb2 := hB.2.1
  have hlnb := ln_le l 21
  generalize hQ : ((3 ^ (H - 1 - m) : Nat) : Int) = Q at *
  refine loopUp _ (fun t ht ih j τ a8 hj hfr hA hC => ?_)
  have ec : τ 17 0 = ((3 ^ H : Nat) : Int) := by rw [hfr 17 (by decide)]; exact hcnt
  have j0 : 0 ≤ j := by rw [hj]; exact Int.mul_nonneg (by omega) (by omega)
  have j1 : j ≤ ((3 ^ H : Nat) : Int) := by
    rw [hj, hsp]
    exact Int.mul_le_mul_of_nonneg_left (by omega) (by omega)
  have hHpos := p3_pos H
  refine g_iload7 dX1_layLengths_56 ?_
  refine g_aload0 dX1_layLengths_58 ?_
  refine f_geti (J := 0) rfl (by decide) rfl rfl fl_X1_9 dX1_layLengths_59 ?_
  rw [ec]
  refine g_icmp_ge ⟨by omega, by omega⟩ ⟨by omega, by omega⟩ (tgt := 155) dX1_layLengths_62 rfl (fun h62 => ?_) (fun h62 => ?_)
  · have e9 : t = 3 ^ m := by
      apply Nat.le_antisymm ht
      apply Nat.le_of_not_lt
      intro h9
      have h8 := Int.mul_lt_mul_of_pos_left (show (3 * (t : Int)) < 3 * ((3 ^ m : Nat) : Int) by omega) (show 0 < Q by omega)
      rw [← hsp, ← hj] at h8
      omega
    exact kont τ j a8 hfr (fun r h0 h1 => hA r h0 (by rw [p3_succ] at h1; omega))
  · have ht2 : t < 3 ^ m := by
      apply Nat.lt_of_le_of_ne ht
      intro e9
      rw [hj, e9, ← hsp] at h62
      omega
    have hj3 : j + 3 * Q ≤ ((3 ^ H : Nat) : Int) := by
      have h9 := Int.mul_le_mul_of_nonneg_left (show (3 * (t : Int) + 3) ≤ 3 * ((3 ^ m : Nat) : Int) by omega) (show 0 ≤ Q by omega)
      rw [Int.mul_add, ← hsp, ← hj] at h9
      omega
    have eL : τ 21 j = Lq (σ 1 1) (σ 2) (σ 3) w H m t := by rw [hj]; exact hC t (Int.le_refl _) (by omega)
    have hLr := Lq_rng hB hw.1 m (by omega) (t : Int)
    refine g_aload0 dX1_layLengths_65 ?_
    refine f_getr (r := 21) rfl (by decide) rfl rfl fl_X1_25 dX1_layLengths_66 ?_
    refine g_iload7 dX1_layLengths_69 ?_
    refine f_cS2w (atI rfl (by decide) (by omega) (by omega)) oY_X5_at oT_X5_at lk_X1_57 rfl dX1_layLengths_71 rfl (Or.inl rfl) ?_
    rw [eL]
    refine g_istore8 dX1_layLengths_74 rfl (by decide) ?_
    refine g_aload0 dX1_layLengths_76 ?_
    refine f_getr (r := 21) rfl (by decide) rfl rfl fl_X1_25 dX1_layLengths_77 ?_
    refine g_iload7 dX1_layLengths_80 ?_
    refine g_aload1 dX1_layLengths_82 ?_
    refine f_geti (J := 1) rfl (by decide) rfl rfl fl_X1_47 dX1_layLengths_83 ?_
    rw [hfr 1 (by decide)]
    refine g_iload6 dX1_layLengths_86 ?_
    refine g_iload5 dX1_layLengths_88 ?_
    refine g_iload8 dX1_layLengths_90 ?_
    refine f_cS4w (lengthBy_ok ⟨hb1, hb2⟩ ⟨by omega, by omega⟩ ⟨by omega, by omega⟩ ⟨by omega, by omega⟩) oY_X1_lengthBy oT_X1_lengthBy lk_X1_91 rfl dX1_layLengths_92 rfl (Or.inl rfl) ?_
    refine f_cS3d (putI rfl (by decide) (by omega) (by omega)) oY_X5_put oT_X5_put lk_X1_65 rfl dX1_layLengths_95 rfl (Or.inl rfl) ?_
    refine g_aload0 dX1_layLengths_98 ?_
    refine f_getr (r := 21) rfl (by decide) rfl rfl fl_X1_25 dX1_layLengths_99 ?_
    refine g_iload7 dX1_layLengths_102 ?_
    refine g_iload4 dX1_layLengths_104 ?_
    refine g_iadd dX1_layLengths_106 ?_
    refine g_aload1 dX1_layLengths_107 ?_
    refine f_geti (J := 1) rfl (by decide) rfl rfl fl_X1_47 dX1_layLengths_108 ?_
    rw [up_n (by decide), hfr 1 (by decide)]
    refine g_iload6 dX1_layLengths_111 ?_
    refine g_iload5 dX1_layLengths_113 ?_
    refine g_iconst dX1_layLengths_115 ?_
    refine g_iadd dX1_layLengths_116 ?_
    refine g_iconst dX1_layLengths_117 ?_
    refine g_idiv (by omega) (by decide) dX1_layLengths_118 ?_
    refine g_iload8 dX1_layLengths_119 ?_
    refine f_cS4w (lengthBy_ok ⟨hb1, hb2⟩ ⟨by omega, by omega⟩ ⟨by omega, by omega⟩ ⟨by omega, by omega⟩) oY_X1_lengthBy oT_X1_lengthBy lk_X1_91 rfl dX1_layLengths_121 rfl (Or.inl rfl) ?_
    refine f_cS3d (putI rfl (by decide) (by omega) (by omega)) oY_X5_put oT_X5_put lk_X1_65 rfl dX1_layLengths_124 rfl (Or.inl rfl) ?_
    refine g_aload0 dX1_layLengths_127 ?_
    refine f_getr (r := 21) rfl (by decide) rfl rfl fl_X1_25 dX1_layLengths_128 ?_
    refine g_iload7 dX1_layLengths_131 ?_
    refine g_iconst dX1_layLengths_133 ?_
    refine g_iload4 dX1_layLengths_134 ?_
    refine g_imul dX1_layLengths_136 ?_
    refine g_iadd dX1_layLengths_137 ?_
    refine g_iload8 dX1_layLengths_138 ?_
    refine f_cS3d (putI rfl (by decide) (by omega) (by omega)) oY_X5_put oT_X5_put lk_X1_65 rfl dX1_layLengths_140 rfl (Or.inl rfl) ?_
    refine g_iload7 dX1_layLengths_143 ?_
    refine g_iconst dX1_layLengths_145 ?_
    refine g_iload4 dX1_layLengths_146 ?_
    refine g_imul dX1_layLengths_148 ?_
    refine g_iadd dX1_layLengths_149 ?_
    refine g_istore7 dX1_layLengths_150 rfl (by decide) ?_
    refine g_goto (tgt := 56) dX1_layLengths_152 rfl ?_
    obtain ⟨n1, n2⟩ := LI_step (f := τ 21) (N := ((3 ^ m : Nat) : Int)) (show 0 < Q by omega) hA hC (Lq_0 (b := σ 1 1) (pl := σ 2) (sz := σ 3) (w := w) (H := H) (m := m) (t := t)).symm (Lq_1 (b := σ 1 1) (pl := σ 2) (sz := σ 3) (w := w) (H := H) (m := m) (t := t)).symm (Lq_2 (b := σ 1 1) (pl := σ 2) (sz := σ 3) (w := w) (H := H) (m := m) (t := t)).symm
    rw [← hj, ← up3] at n1 n2
    refine ih ht2 _ _ _ ?_ (fun a ha => ?_) (fun r h0 h1 => n1 r h0 (by omega)) (fun q h0 h1 => n2 q (by omega) h1)
    · rw [hj]
      push_cast
      rw [Int.mul_add 3 (t : Int) 1, Int.mul_add Q]
      omega
    · rw [up_n ha, up_n ha, up_n ha]
      exact hfr a ha
theorem layLengths_ok {H : Nat} {w : Int} (hB : okB (σ 1 1) (σ 2) (σ 3) H) (hH : σ 1 8 = (H : Int)) (hw : 0 ≤ w ∧ w ≤ 100000) (hcnt : σ 17 0 = ((3 ^ H : Nat) : Int)) (hln : ((3 ^ H : Nat) : Int) ≤ (ln l 21 : Int)) : Fu g zX1_layLengths 0 0 [.ref 17, .ref 1, iv w] σ l (fun σ' l' => (∀ a, a ≠ 21 → σ' a = σ a) ∧ (∀ r, 0 ≤ r → r < ((3 ^ H : Nat) : Int) → σ' 21 r = Lq (σ 1 1) (σ 2) (σ 3) w H H r) ∧ l' = l) := by
  refine Fn.of [some (.ref 17), some (.ref 1), some (iv w), none, none, none, none, none, none] rfl (by decide) (Nat.le_of_ble_eq_true rfl) rfl ?_
  have hH7 := hB.2.2.1
  have hpos := p3_pos H
  have outer : ∀ m, m ≤ H → ∀ (i : Int) (τ : sT), i = (H : Int) - 1 - m → (∀ a, a ≠ 21 → τ a = σ a) → (∀ q, 0 ≤ q → q < ((3 ^ m : Nat) : Int) → τ 21 (((3 ^ (H - m) : Nat) : Int) * q) = Lq (σ 1 1) (σ 2) (σ 3) w H m q) → FW g zX1_layLengths 0 0 (fun q σ' l' => q = .inl none ∧ (∀ a, a ≠ 21 → σ' a = σ a) ∧ (∀ r, 0 ≤ r → r < ((3 ^ H : Nat) : Int) → σ' 21 r = Lq (σ 1 1) (σ 2) (σ 3) w H H r) ∧ l' = l) 16 [some (.ref 17), some (.ref 1), some (iv w), some (iv i), none, none, none, none, none] [] τ l := by
    refine loopUp H (fun m hm ih i τ hi hfr hI => ?_)
    subst hi
    refine g_iload3 dX1_layLengths_16 ?_
    refine g_if_lt ⟨by omega, by omega⟩ (tgt := 161) dX1_layLengths_17 rfl (fun h17 => ?_) (fun h17 => ?_)
    · refine g_return rfl dX1_layLengths_161 ?_
      have hmH : m = H := by omega
      subst hmH
      refine Fu.ret ⟨hfr, fun r h0 h1 => ?_, rfl⟩
      have h9 := hI r h0 h1
      rw [Nat.sub_self, show ((3 ^ 0 : Nat) : Int) = 1 from rfl, Int.one_mul] at h9
      exact h9
    · refine g_iconst dX1_layLengths_20 ?_
      refine g_gets lf_X1_69 dX1_layLengths_21 ?_
      refine g_iload3 dX1_layLengths_24 ?_
      refine f_cS2w (atP_ok ⟨by omega, by omega⟩) oY_X5_at oT_X5_at lk_X1_57 rfl dX1_layLengths_25 rfl (Or.inl rfl) ?_
      refine g_mmax ⟨by omega, by omega⟩ ⟨by have := @pw_rng ((H : Int) - 1 - m); omega, by have := @pw_rng ((H : Int) - 1 - m); omega⟩ ma_X1_79 ⟨by decide, Nat.le_of_ble_eq_true rfl⟩ dX1_layLengths_28 ?_
      rw [show (H : Int) - 1 - m = ((H - 1 - m : Nat) : Int) from by omega, pw_nat (by omega), Int.max_eq_right (by have := p3_pos (H - 1 - m); omega), show ((H - 1 - m : Nat) : Int) = (H : Int) - 1 - m from by omega]
      refine g_istore4 dX1_layLengths_31 rfl (by decide) ?_
      refine g_aload1 dX1_layLengths_33 ?_
      refine f_getr (r := 3) rfl (by decide) rfl rfl fl_X1_85 dX1_layLengths_34 ?_
      refine g_iload3 dX1_layLengths_37 ?_
      refine f_cS2w (atI rfl (by decide) (by omega) (by show (H : Int) - 1 - m < (7 : Nat); omega)) oY_X5_at oT_X5_at lk_X1_57 rfl dX1_layLengths_38 rfl (Or.inl rfl) ?_
      rw [hfr 3 (by decide)]
      refine g_istore5 dX1_layLengths_41 rfl (by decide) ?_
      refine g_aload1 dX1_layLengths_43 ?_
      refine f_getr (r := 2) rfl (by decide) rfl rfl fl_X1_88 dX1_layLengths_44 ?_
      refine g_iload3 dX1_layLengths_47 ?_
      refine f_cS2w (atI rfl (by decide) (by omega) (by show (H : Int) - 1 - m < (7 : Nat); omega)) oY_X5_at oT_X5_at lk_X1_57 rfl dX1_layLengths_48 rfl (Or.inl rfl) ?_
      rw [hfr 2 (by decide)]
      refine g_istore6 dX1_layLengths_51 rfl (by decide) ?_
      refine g_iconst dX1_layLengths_53 ?_
      refine g_istore7 dX1_layLengths_54 rfl (by decide) ?_
      refine layLen_in (a8 := none) (by omega) hB hw hcnt hln (fun τ3 j3 a8 f1 f2 => ?_) 0 (Nat.zero_le _) _ _ _ (by simp) hfr (fun r h0 h1 => by omega) (fun q h0 h1 => ?_)
      · refine g_iinc3 dX1_layLengths_155 rfl (by decide) ?_
        refine g_goto (tgt := 16) dX1_layLengths_158 rfl ?_
        refine g_forget 4 ?_
        refine g_forget 5 ?_
        refine g_forget 6 ?_
        refine g_forget 7 ?_
        refine g_forget 8 ?_
        exact ih (by omega) _ _ (by push_cast; omega) f1 (fun q h0 h1 => by rw [show H - (m + 1) = H - 1 - m from by omega]; exact f2 q h0 h1)
      · have h9 := hI q (by omega) h1
        rw [show H - m = (H - 1 - m) + 1 from by omega, Nat.pow_succ] at h9
        rw [← Int.mul_assoc]
        push_cast at h9 ⊢
        exact h9
  refine g_aload0 dX1_layLengths_0 ?_
  refine f_getr (r := 21) rfl (by decide) rfl rfl fl_X1_25 dX1_layLengths_1 ?_
  refine g_iconst dX1_layLengths_4 ?_
  refine g_iload2 dX1_layLengths_5 ?_
  refine f_cS3d (putI rfl (by decide) (by omega) (by omega)) oY_X5_put oT_X5_put lk_X1_65 rfl dX1_layLengths_6 rfl (Or.inl rfl) ?_
  refine g_aload1 dX1_layLengths_9 ?_
  refine f_geti (J := 8) rfl (by decide) rfl rfl fl_X1_76 dX1_layLengths_10 ?_
  rw [up_n (by decide), hH]
  refine g_iconst dX1_layLengths_13 ?_
  refine g_isub dX1_layLengths_14 ?_
  refine g_istore3 dX1_layLengths_15 rfl (by decide) ?_
  refine outer 0 (Nat.zero_le _) _ _ (by push_cast; omega) (fun a ha => up_n ha) (fun q h0 h1 => ?_)
  have e9 : ((3 ^ 0 : Nat) : Int) = 1 := rfl
  have : q = 0 := by omega
  subst this
  rw [Int.mul_zero, up_eq]
  rfl
end C24
