/-! Choice: its small methods -/
section C27
variable {g : gT} {σ : sT} {l : Nat → Nat}
def isCh (o : Nat) : Prop := kd o = 10 ∧ (o = 24 ∨ o = 32) ∧ kd (o + 1) = 0 ∧ kd (o + 2) = 0 ∧ kd (o + 3) = 0 ∧ kd (o + 4) = 0 ∧ kd (o + 5) = 0 ∧ kd (o + 6) = 0 ∧ kd (o + 7) = 0 ∧ (∀ l, ln l (o + 1) = 26) ∧ (∀ l, ln l (o + 2) = 25) ∧ (∀ l, ln l (o + 3) = 25) ∧ (∀ l, ln l (o + 4) = 25) ∧ ownr o = none ∧ ownr (o + 5) = some (o, 4) ∧ ownr (o + 6) = some (o, 5) ∧ ownr (o + 7) = some (o, 6)
theorem isCh24 : isCh 24 := ⟨rfl, Or.inl rfl, rfl, rfl, rfl, rfl, rfl, rfl, rfl, fun _ => rfl, fun _ => rfl, fun _ => rfl, fun _ => rfl, rfl, rfl, rfl, rfl⟩
theorem isCh32 : isCh 32 := ⟨rfl, Or.inr rfl, rfl, rfl, rfl, rfl, rfl, rfl, rfl, fun _ => rfl, fun _ => rfl, fun _ => rfl, fun _ => rfl, rfl, rfl, rfl, rfl⟩
theorem isCh.lt {o : Nat} (h : isCh o) (i : Nat) (hi : i ≤ 7) : o + i < 110 := by rcases h.2.1 with rfl | rfl <;> omega
theorem isCh.k1 {o : Nat} (h : isCh o) : kd (o + 1) = 0 := h.2.2.1
theorem isCh.k2 {o : Nat} (h : isCh o) : kd (o + 2) = 0 := h.2.2.2.1
theorem isCh.k3 {o : Nat} (h : isCh o) : kd (o + 3) = 0 := h.2.2.2.2.1
theorem isCh.k4 {o : Nat} (h : isCh o) : kd (o + 4) = 0 := h.2.2.2.2.2.1
theorem isCh.k5 {o : Nat} (h : isCh o) : kd (o + 5) = 0 := h.2.2.2.2.2.2.1
theorem isCh.k6 {o : Nat} (h : isCh o) : kd (o + 6) = 0 := h.2.2.2.2.2.2.2.1
theorem isCh.k7 {o : Nat} (h : isCh o) : kd (o + 7) = 0 := h.2.2.2.2.2.2.2.2.1
theorem isCh.n1 {o : Nat} (h : isCh o) (l : Nat → Nat) : ln l (o + 1) = 26 := h.2.2.2.2.2.2.2.2.2.1 l
theorem isCh.n2 {o : Nat} (h : isCh o) (l : Nat → Nat) : ln l (o + 2) = 25 := h.2.2.2.2.2.2.2.2.2.2.1 l
theorem isCh.n3 {o : Nat} (h : isCh o) (l : Nat → Nat) : ln l (o + 3) = 25 := h.2.2.2.2.2.2.2.2.2.2.2.1 l
theorem isCh.n4 {o : Nat} (h : isCh o) (l : Nat → Nat) : ln l (o + 4) = 25 := h.2.2.2.2.2.2.2.2.2.2.2.2.1 l
theorem isCh.ow {o : Nat} (h : isCh o) : ownr o = none := h.2.2.2.2.2.2.2.2.2.2.2.2.2.1
theorem h1_rng (d : Int) : 0 ≤ h1 d ∧ h1 d ≤ 1 := by unfold h1; split <;> omega
theorem cq_rng (q d r : Int) : 0 ≤ cq q d r ∧ cq q d r ≤ 1 := by unfold cq; split <;> omega
theorem hvF_rng (p : Int) : 0 ≤ hvF p ∧ hvF p ≤ 7 := by
  unfold hvF
  have a0 := h1_rng (p % 3); have a1 := h1_rng (p / 3 % 3); have a2 := h1_rng (p / 9 % 3); have a3 := h1_rng (p / 27 % 3); have a4 := h1_rng (p / 81 % 3); have a5 := h1_rng (p / 243 % 3); have a6 := h1_rng (p / 729 % 3)
  omega
theorem crF_rng (p : Int) : 0 ≤ crF p ∧ crF p ≤ 6 := by
  unfold crF
  have a1 := cq_rng 3 (p / 3 % 3) (p % 3); have a2 := cq_rng 9 (p / 9 % 3) (p % 9); have a3 := cq_rng 27 (p / 27 % 3) (p % 27); have a4 := cq_rng 81 (p / 81 % 3) (p % 81); have a5 := cq_rng 243 (p / 243 % 3) (p % 243); have a6 := cq_rng 729 (p / 729 % 3) (p % 729)
  omega
theorem FX.ret1 {Q : Prop} [Decidable Q] {τ : sT} (h : Q) (h2 : σ = τ) : fΦ (fun o σ' l' => o = .inl (some (bv Q)) ∧ σ' = τ ∧ l' = l) (.inl (some (iv 1))) (mem σ l) := ⟨σ, l, rfl, by simp [bv, h], h2, rfl⟩
theorem FX.ret0 {Q : Prop} [Decidable Q] {τ : sT} (h : ¬ Q) (h2 : σ = τ) : fΦ (fun o σ' l' => o = .inl (some (bv Q)) ∧ σ' = τ ∧ l' = l) (.inl (some (iv 0))) (mem σ l) := ⟨σ, l, rfl, by simp [bv, h], h2, rfl⟩
theorem firstOf_ok {o : Nat} {t : Int} (hs : isCh o) (ht : 0 ≤ t ∧ t ≤ 25) : Fw g zX0_firstOf [.ref o, iv t] σ l (iv (σ (o + 1) t)) := by
  refine Fn.of [some (.ref o), some (iv t)] rfl (by decide) (Nat.le_of_ble_eq_true rfl) rfl ?_
  refine g_aload0 dX0_firstOf_0 ?_
  refine f_getr (r := o + 1) hs.1 (hs.lt 0 (by decide)) rfl rfl fl_X0_9 dX0_firstOf_1 ?_
  refine g_iload1 dX0_firstOf_4 ?_
  refine f_cS2w (atI hs.k1 (hs.lt 1 (by decide)) (by omega) (by rw [hs.n1]; omega)) oY_X5_at oT_X5_at lk_X0_58 rfl dX0_firstOf_5 rfl (Or.inl rfl) ?_
  refine g_iretI rfl dX0_firstOf_8 ?_
  exact Fw.ret rfl

def ctF (f : Int → Int) (t : Int) : Int := if 0 ≤ t ∧ t < 25 then f (t + 1) - f t else 0
theorem countOf_ok {o : Nat} {t : Int} (hs : isCh o) (ht : R32 t) : Fw g zX0_countOf [.ref o, iv t] σ l (iv (ctF (σ (o + 1)) t)) := by
  refine Fn.of [some (.ref o), some (iv t)] rfl (by decide) (Nat.le_of_ble_eq_true rfl) rfl ?_
  refine g_iload1 dX0_countOf_0 ?_
  refine f_cS1w (isTone_ok ht) oY_X5_isTone oT_X5_isTone lk_X0_81 rfl dX0_countOf_1 rfl (Or.inl rfl) ?_
  refine g_ifeqB (tgt := 29) dX0_countOf_4 rfl (fun h4 => ?_) (fun h4 => ?_)
  · refine g_iconst dX0_countOf_29 ?_
    refine g_iretI rfl dX0_countOf_30 ?_
    exact Fw.ret (by unfold ctF; first | rw [if_pos (by omega)] | rw [if_neg (by omega)])
  · refine g_aload0 dX0_countOf_7 ?_
    refine f_getr (r := o + 1) hs.1 (hs.lt 0 (by decide)) rfl rfl fl_X0_9 dX0_countOf_8 ?_
    refine g_iload1 dX0_countOf_11 ?_
    refine g_iconst dX0_countOf_12 ?_
    refine g_iadd dX0_countOf_13 ?_
    refine f_cS2w (atI hs.k1 (hs.lt 1 (by decide)) (by omega) (by rw [hs.n1]; omega)) oY_X5_at oT_X5_at lk_X0_58 rfl dX0_countOf_14 rfl (Or.inl rfl) ?_
    refine g_aload0 dX0_countOf_17 ?_
    refine f_getr (r := o + 1) hs.1 (hs.lt 0 (by decide)) rfl rfl fl_X0_9 dX0_countOf_18 ?_
    refine g_iload1 dX0_countOf_21 ?_
    refine f_cS2w (atI hs.k1 (hs.lt 1 (by decide)) (by omega) (by rw [hs.n1]; omega)) oY_X5_at oT_X5_at lk_X0_58 rfl dX0_countOf_22 rfl (Or.inl rfl) ?_
    refine g_isub dX0_countOf_25 ?_
    refine g_goto (tgt := 30) dX0_countOf_26 rfl ?_
    refine g_iretI rfl dX0_countOf_30 ?_
    exact Fw.ret (by unfold ctF; first | rw [if_pos (by omega)] | rw [if_neg (by omega)])

theorem limitBit_ok {a b : Nat} (ha : a ≤ 2) (hb : b ≤ 3) : Fw g zX0_limitBit [iv (a : Int), iv (b : Int)] σ l (iv ((2 ^ (a * 4 + b) : Nat) : Int)) := by
  refine Fn.of [some (iv (a : Int)), some (iv (b : Int))] rfl (by decide) (Nat.le_of_ble_eq_true rfl) rfl ?_
  refine g_iconst dX0_limitBit_0 ?_
  refine g_iload0 dX0_limitBit_1 ?_
  refine g_iconst dX0_limitBit_2 ?_
  refine g_imul dX0_limitBit_3 ?_
  refine g_iload1 dX0_limitBit_4 ?_
  refine g_iadd dX0_limitBit_5 ?_
  rw [show (a : Int) * 4 + (b : Int) = ((a * 4 + b : Nat) : Int) from by push_cast; rfl]
  refine g_ishl (by omega) dX0_limitBit_6 ?_
  rw [Int.one_mul]
  refine g_iretI rfl dX0_limitBit_7 ?_
  exact Fw.ret rfl

/-- what counting one play changes -/
def ciL (σ : sT) (o : Nat) (t : Int) (hn xn mn : Nat) : sT := if (hn : Int) ≤ 2 ∧ (xn : Int) ≤ 3 then up (up σ (o + 3) t (σ (o + 3) t + 1)) (o + 4) t ((mn ||| 2 ^ (hn * 4 + xn) : Nat) : Int) else up σ (o + 3) t (σ (o + 3) t + 1)
def ciS (σ : sT) (o : Nat) (t : Int) (hn xn mn : Nat) (hv cr : Int) : sT :=
  if t = -1 then σ else if (hn : Int) ≤ hv ∧ (xn : Int) ≤ cr then up (ciL σ o t hn xn mn) (o + 2) t (σ (o + 2) t + 1) else ciL σ o t hn xn mn
theorem countIfEasy_ok {o hn xn mn : Nat} {p t hv cr : Int} (hs : isCh o) (hc : 0 ≤ σ 17 0 ∧ σ 17 0 ≤ 2187 ∧ σ 17 0 ≤ (ln l 19 : Int) ∧ σ 17 0 ≤ (ln l 20 : Int)) (hp : 0 ≤ p ∧ p < 2 * σ 17 0) (ht : -1 ≤ t ∧ t < 25) (hh : σ 19 (fgF (σ 17 0) p) = (hn : Int)) (hx : σ 20 (fgF (σ 17 0) p) = (xn : Int)) (hm : t ≠ -1 → σ (o + 4) t = (mn : Int)) (hn7 : hn ≤ 7) (xn7 : xn ≤ 7) (hv9 : 0 ≤ hv ∧ hv ≤ 9) (cr9 : 0 ≤ cr ∧ cr ≤ 9) : FX g zX0_countIfEasy [.ref o, .ref 17, iv p, iv t, iv hv, iv cr] σ l (bv (t ≠ -1 ∧ (hn : Int) ≤ hv ∧ (xn : Int) ≤ cr)) (ciS σ o t hn xn mn hv cr) := by
  refine Fn.of [some (.ref o), some (.ref 17), some (iv p), some (iv t), some (iv hv), some (iv cr), none, none] rfl (by decide) (Nat.le_of_ble_eq_true rfl) rfl ?_
  have ho := hs.2.1
  refine g_iload3 dX0_countIfEasy_0 ?_
  refine g_iconst dX0_countIfEasy_1 ?_
  refine g_icmp_ne ⟨by omega, by omega⟩ ⟨by omega, by omega⟩ (tgt := 7) dX0_countIfEasy_2 rfl (fun h2 => ?_) (fun h2 => ?_)
  · refine g_aload0 dX0_countIfEasy_7 ?_
    refine f_getr (r := o + 3) hs.1 (hs.lt 0 (by decide)) rfl rfl fl_X0_18 dX0_countIfEasy_8 ?_
    refine g_iload3 dX0_countIfEasy_11 ?_
    refine g_aload0 dX0_countIfEasy_12 ?_
    refine f_getr (r := o + 3) hs.1 (hs.lt 0 (by decide)) rfl rfl fl_X0_18 dX0_countIfEasy_13 ?_
    refine g_iload3 dX0_countIfEasy_16 ?_
    refine f_cS2w (atI hs.k3 (hs.lt 3 (by decide)) (by omega) (by rw [hs.n3]; omega)) oY_X5_at oT_X5_at lk_X0_58 rfl dX0_countIfEasy_17 rfl (Or.inl rfl) ?_
    refine g_iconst dX0_countIfEasy_20 ?_
    refine g_iadd dX0_countIfEasy_21 ?_
    refine f_cS3d (putI hs.k3 (hs.lt 3 (by decide)) (by omega) (by rw [hs.n3]; omega)) oY_X5_put oT_X5_put lk_X0_39 rfl dX0_countIfEasy_22 rfl (Or.inl rfl) ?_
    refine g_aload1 dX0_countIfEasy_25 ?_
    refine f_getr (r := 19) rfl (by decide) rfl rfl fl_X0_66 dX0_countIfEasy_26 ?_
    refine g_aload1 dX0_countIfEasy_29 ?_
    refine g_iload2 dX0_countIfEasy_30 ?_
    refine f_cV1w (fingeringOf_ok ⟨by omega, by omega⟩ (by rw [up_n (by omega)]; exact ⟨by omega, by omega⟩)) rfl (by decide) rfl oY_X1_fingeringOf oI_X1_fingeringOf lk_X0_69 rfl dX0_countIfEasy_31 rfl (Or.inl rfl) ?_
    refine f_cS2w (atI rfl (by decide) (by rw [up_n (by omega)]; unfold fgF; split <;> omega) (by rw [up_n (by omega)]; unfold fgF; split <;> omega)) oY_X5_at oT_X5_at lk_X0_58 rfl dX0_countIfEasy_34 rfl (Or.inl rfl) ?_
    rw [up_n (by omega), up_n (by omega), hh]
    refine g_istore6 dX0_countIfEasy_37 rfl (by decide) ?_
    refine g_aload1 dX0_countIfEasy_39 ?_
    refine f_getr (r := 20) rfl (by decide) rfl rfl fl_X0_72 dX0_countIfEasy_40 ?_
    refine g_aload1 dX0_countIfEasy_43 ?_
    refine g_iload2 dX0_countIfEasy_44 ?_
    refine f_cV1w (fingeringOf_ok ⟨by omega, by omega⟩ (by rw [up_n (by omega)]; exact ⟨by omega, by omega⟩)) rfl (by decide) rfl oY_X1_fingeringOf oI_X1_fingeringOf lk_X0_69 rfl dX0_countIfEasy_45 rfl (Or.inl rfl) ?_
    refine f_cS2w (atI rfl (by decide) (by rw [up_n (by omega)]; unfold fgF; split <;> omega) (by rw [up_n (by omega)]; unfold fgF; split <;> omega)) oY_X5_at oT_X5_at lk_X0_58 rfl dX0_countIfEasy_48 rfl (Or.inl rfl) ?_
    rw [up_n (by omega), up_n (by omega), hx]
    refine g_istore7 dX0_countIfEasy_51 rfl (by decide) ?_
    refine g_iload6 dX0_countIfEasy_53 ?_
    refine g_iconst dX0_countIfEasy_55 ?_
    refine g_icmp_gt ⟨by omega, by omega⟩ ⟨by omega, by omega⟩ (tgt := 89) dX0_countIfEasy_56 rfl (fun h56 => ?_) (fun h56 => ?_)
    · refine g_iload6 dX0_countIfEasy_89 ?_
      refine g_iload4 dX0_countIfEasy_91 ?_
      refine g_icmp_gt ⟨by omega, by omega⟩ ⟨by omega, by omega⟩ (tgt := 103) dX0_countIfEasy_93 rfl (fun h93 => ?_) (fun h93 => ?_)
      · refine g_iconst dX0_countIfEasy_103 ?_
        refine g_iretB (Or.inl rfl) rfl dX0_countIfEasy_104 ?_
        exact FX.ret0 (by omega) (by unfold ciS ciL; repeat (first | rw [if_pos (by omega)] | rw [if_neg (by omega)]))
      · refine g_iload7 dX0_countIfEasy_96 ?_
        refine g_iload5 dX0_countIfEasy_98 ?_
        refine g_icmp_le ⟨by omega, by omega⟩ ⟨by omega, by omega⟩ (tgt := 105) dX0_countIfEasy_100 rfl (fun h100 => ?_) (fun h100 => ?_)
        · refine g_aload0 dX0_countIfEasy_105 ?_
          refine f_getr (r := o + 2) hs.1 (hs.lt 0 (by decide)) rfl rfl fl_X0_15 dX0_countIfEasy_106 ?_
          refine g_iload3 dX0_countIfEasy_109 ?_
          refine g_aload0 dX0_countIfEasy_110 ?_
          refine f_getr (r := o + 2) hs.1 (hs.lt 0 (by decide)) rfl rfl fl_X0_15 dX0_countIfEasy_111 ?_
          refine g_iload3 dX0_countIfEasy_114 ?_
          refine f_cS2w (atI hs.k2 (hs.lt 2 (by decide)) (by omega) (by rw [hs.n2]; omega)) oY_X5_at oT_X5_at lk_X0_58 rfl dX0_countIfEasy_115 rfl (Or.inl rfl) ?_
          (first | rw [up_n (by omega), up_n (by omega)] | rw [up_n (by omega)])
          refine g_iconst dX0_countIfEasy_118 ?_
          refine g_iadd dX0_countIfEasy_119 ?_
          refine f_cS3d (putI hs.k2 (hs.lt 2 (by decide)) (by omega) (by rw [hs.n2]; omega)) oY_X5_put oT_X5_put lk_X0_39 rfl dX0_countIfEasy_120 rfl (Or.inl rfl) ?_
          refine g_iconst dX0_countIfEasy_123 ?_
          refine g_iretB (Or.inr rfl) rfl dX0_countIfEasy_124 ?_
          exact FX.ret1 (by omega) (by unfold ciS ciL; repeat (first | rw [if_pos (by omega)] | rw [if_neg (by omega)]))
        · refine g_iconst dX0_countIfEasy_103 ?_
          refine g_iretB (Or.inl rfl) rfl dX0_countIfEasy_104 ?_
          exact FX.ret0 (by omega) (by unfold ciS ciL; repeat (first | rw [if_pos (by omega)] | rw [if_neg (by omega)]))
    · refine g_iload7 dX0_countIfEasy_59 ?_
      refine g_iconst dX0_countIfEasy_61 ?_
      refine g_icmp_gt ⟨by omega, by omega⟩ ⟨by omega, by omega⟩ (tgt := 89) dX0_countIfEasy_62 rfl (fun h62 => ?_) (fun h62 => ?_)
      · refine g_iload6 dX0_countIfEasy_89 ?_
        refine g_iload4 dX0_countIfEasy_91 ?_
        refine g_icmp_gt ⟨by omega, by omega⟩ ⟨by omega, by omega⟩ (tgt := 103) dX0_countIfEasy_93 rfl (fun h93 => ?_) (fun h93 => ?_)
        · refine g_iconst dX0_countIfEasy_103 ?_
          refine g_iretB (Or.inl rfl) rfl dX0_countIfEasy_104 ?_
          exact FX.ret0 (by omega) (by unfold ciS ciL; repeat (first | rw [if_pos (by omega)] | rw [if_neg (by omega)]))
        · refine g_iload7 dX0_countIfEasy_96 ?_
          refine g_iload5 dX0_countIfEasy_98 ?_
          refine g_icmp_le ⟨by omega, by omega⟩ ⟨by omega, by omega⟩ (tgt := 105) dX0_countIfEasy_100 rfl (fun h100 => ?_) (fun h100 => ?_)
          · refine g_aload0 dX0_countIfEasy_105 ?_
            refine f_getr (r := o + 2) hs.1 (hs.lt 0 (by decide)) rfl rfl fl_X0_15 dX0_countIfEasy_106 ?_
            refine g_iload3 dX0_countIfEasy_109 ?_
            refine g_aload0 dX0_countIfEasy_110 ?_
            refine f_getr (r := o + 2) hs.1 (hs.lt 0 (by decide)) rfl rfl fl_X0_15 dX0_countIfEasy_111 ?_
            refine g_iload3 dX0_countIfEasy_114 ?_
            refine f_cS2w (atI hs.k2 (hs.lt 2 (by decide)) (by omega) (by rw [hs.n2]; omega)) oY_X5_at oT_X5_at lk_X0_58 rfl dX0_countIfEasy_115 rfl (Or.inl rfl) ?_
            (first | rw [up_n (by omega), up_n (by omega)] | rw [up_n (by omega)])
            refine g_iconst dX0_countIfEasy_118 ?_
            refine g_iadd dX0_countIfEasy_119 ?_
            refine f_cS3d (putI hs.k2 (hs.lt 2 (by decide)) (by omega) (by rw [hs.n2]; omega)) oY_X5_put oT_X5_put lk_X0_39 rfl dX0_countIfEasy_120 rfl (Or.inl rfl) ?_
            refine g_iconst dX0_countIfEasy_123 ?_
            refine g_iretB (Or.inr rfl) rfl dX0_countIfEasy_124 ?_
            exact FX.ret1 (by omega) (by unfold ciS ciL; repeat (first | rw [if_pos (by omega)] | rw [if_neg (by omega)]))
          · refine g_iconst dX0_countIfEasy_103 ?_
            refine g_iretB (Or.inl rfl) rfl dX0_countIfEasy_104 ?_
            exact FX.ret0 (by omega) (by unfold ciS ciL; repeat (first | rw [if_pos (by omega)] | rw [if_neg (by omega)]))
      · refine g_aload0 dX0_countIfEasy_65 ?_
        refine f_getr (r := o + 4) hs.1 (hs.lt 0 (by decide)) rfl rfl fl_X0_21 dX0_countIfEasy_66 ?_
        refine g_iload3 dX0_countIfEasy_69 ?_
        refine g_aload0 dX0_countIfEasy_70 ?_
        refine f_getr (r := o + 4) hs.1 (hs.lt 0 (by decide)) rfl rfl fl_X0_21 dX0_countIfEasy_71 ?_
        refine g_iload3 dX0_countIfEasy_74 ?_
        refine f_cS2w (atI hs.k4 (hs.lt 4 (by decide)) (by omega) (by rw [hs.n4]; omega)) oY_X5_at oT_X5_at lk_X0_58 rfl dX0_countIfEasy_75 rfl (Or.inl rfl) ?_
        rw [up_n (by omega), hm h2]
        refine g_iload6 dX0_countIfEasy_78 ?_
        refine g_iload7 dX0_countIfEasy_80 ?_
        refine f_cS2w (limitBit_ok (by omega) (by omega)) oY_X0_limitBit oT_X0_limitBit lk_X0_75 rfl dX0_countIfEasy_82 rfl (Or.inl rfl) ?_
        refine g_ior dX0_countIfEasy_85 ?_
        refine f_cS3d (putI hs.k4 (hs.lt 4 (by decide)) (by omega) (by rw [hs.n4]; omega)) oY_X5_put oT_X5_put lk_X0_39 rfl dX0_countIfEasy_86 rfl (Or.inl rfl) ?_
        refine g_iload6 dX0_countIfEasy_89 ?_
        refine g_iload4 dX0_countIfEasy_91 ?_
        refine g_icmp_gt ⟨by omega, by omega⟩ ⟨by omega, by omega⟩ (tgt := 103) dX0_countIfEasy_93 rfl (fun h93 => ?_) (fun h93 => ?_)
        · refine g_iconst dX0_countIfEasy_103 ?_
          refine g_iretB (Or.inl rfl) rfl dX0_countIfEasy_104 ?_
          exact FX.ret0 (by omega) (by unfold ciS ciL; repeat (first | rw [if_pos (by omega)] | rw [if_neg (by omega)]))
        · refine g_iload7 dX0_countIfEasy_96 ?_
          refine g_iload5 dX0_countIfEasy_98 ?_
          refine g_icmp_le ⟨by omega, by omega⟩ ⟨by omega, by omega⟩ (tgt := 105) dX0_countIfEasy_100 rfl (fun h100 => ?_) (fun h100 => ?_)
          · refine g_aload0 dX0_countIfEasy_105 ?_
            refine f_getr (r := o + 2) hs.1 (hs.lt 0 (by decide)) rfl rfl fl_X0_15 dX0_countIfEasy_106 ?_
            refine g_iload3 dX0_countIfEasy_109 ?_
            refine g_aload0 dX0_countIfEasy_110 ?_
            refine f_getr (r := o + 2) hs.1 (hs.lt 0 (by decide)) rfl rfl fl_X0_15 dX0_countIfEasy_111 ?_
            refine g_iload3 dX0_countIfEasy_114 ?_
            refine f_cS2w (atI hs.k2 (hs.lt 2 (by decide)) (by omega) (by rw [hs.n2]; omega)) oY_X5_at oT_X5_at lk_X0_58 rfl dX0_countIfEasy_115 rfl (Or.inl rfl) ?_
            (first | rw [up_n (by omega), up_n (by omega)] | rw [up_n (by omega)])
            refine g_iconst dX0_countIfEasy_118 ?_
            refine g_iadd dX0_countIfEasy_119 ?_
            refine f_cS3d (putI hs.k2 (hs.lt 2 (by decide)) (by omega) (by rw [hs.n2]; omega)) oY_X5_put oT_X5_put lk_X0_39 rfl dX0_countIfEasy_120 rfl (Or.inl rfl) ?_
            refine g_iconst dX0_countIfEasy_123 ?_
            refine g_iretB (Or.inr rfl) rfl dX0_countIfEasy_124 ?_
            exact FX.ret1 (by omega) (by unfold ciS ciL; repeat (first | rw [if_pos (by omega)] | rw [if_neg (by omega)]))
          · refine g_iconst dX0_countIfEasy_103 ?_
            refine g_iretB (Or.inl rfl) rfl dX0_countIfEasy_104 ?_
            exact FX.ret0 (by omega) (by unfold ciS ciL; repeat (first | rw [if_pos (by omega)] | rw [if_neg (by omega)]))
  · refine g_iconst dX0_countIfEasy_5 ?_
    refine g_iretB (Or.inl rfl) rfl dX0_countIfEasy_6 ?_
    exact FX.ret0 (by omega) (by unfold ciS ciL; repeat (first | rw [if_pos (by omega)] | rw [if_neg (by omega)]))

/-- sums ahead -/
def frI (c : Int → Int) : Nat → Int
  | 0 => 0
  | t + 1 => frI c t + c t
theorem layFirsts_ok {o : Nat} (hs : isCh o) (hc : ∀ t, 0 ≤ t → t < 25 → 0 ≤ σ (o + 2) t ∧ σ (o + 2) t ≤ 100000) : Fu g zX0_layFirsts 0 0 [.ref o] σ l (fun σ' l' => (∀ a, a ≠ o + 1 → a ≠ o + 2 → σ' a = σ a) ∧ (∀ t : Nat, t ≤ 25 → σ' (o + 1) t = frI (σ (o + 2)) t) ∧ (∀ t : Nat, t < 25 → σ' (o + 2) t = frI (σ (o + 2)) t) ∧ l' = l) := by
  have ho := hs.2.1
  refine Fn.of [some (.ref o), none, none, none] rfl (by decide) (Nat.le_of_ble_eq_true rfl) rfl ?_
  have loop : ∀ k : Nat, k ≤ 25 → ∀ (i s : Int) (τ : sT) (a3 : Option Value), i = (k : Int) → s = frI (σ (o + 2)) k → (∀ a, a ≠ o + 1 → a ≠ o + 2 → τ a = σ a) → (∀ t : Nat, t < k → τ (o + 1) t = frI (σ (o + 2)) t) → (∀ t : Nat, t < k → τ (o + 2) t = frI (σ (o + 2)) t) → (∀ t : Int, (k : Int) ≤ t → τ (o + 2) t = σ (o + 2) t) → FW g zX0_layFirsts 0 0 (fun q σ' l' => q = .inl none ∧ (∀ a, a ≠ o + 1 → a ≠ o + 2 → σ' a = σ a) ∧ (∀ t : Nat, t ≤ 25 → σ' (o + 1) t = frI (σ (o + 2)) t) ∧ (∀ t : Nat, t < 25 → σ' (o + 2) t = frI (σ (o + 2)) t) ∧ l' = l) 4 [some (.ref o), some (iv s), some (iv i), a3] [] τ l := by
    refine loopUp 25 (fun k hk ih i s τ a3 hi hq hfr h1 h2 h3 => ?_)
    subst hi
    refine g_iload2 dX0_layFirsts_4 ?_
    refine g_bipush dX0_layFirsts_5 (by decide) ?_
    refine g_icmp_ge ⟨by omega, by omega⟩ ⟨by omega, by omega⟩ (tgt := 47) dX0_layFirsts_7 rfl (fun h7 => ?_) (fun h7 => ?_)
    · refine g_aload0 dX0_layFirsts_47 ?_
      refine f_getr (r := o + 1) hs.1 (hs.lt 0 (by decide)) rfl rfl fl_X0_9 dX0_layFirsts_48 ?_
      refine g_bipush dX0_layFirsts_51 (by decide) ?_
      refine g_iload1 dX0_layFirsts_53 ?_
      refine f_cS3d (putI hs.k1 (hs.lt 1 (by decide)) (by omega) (by rw [hs.n1]; omega)) oY_X5_put oT_X5_put lk_X0_39 rfl dX0_layFirsts_54 rfl (Or.inl rfl) ?_
      refine g_return rfl dX0_layFirsts_57 ?_
      have hk25 : k = 25 := by omega
      subst hk25
      refine Fu.ret ⟨fun a a1 a2 => by rw [up_n a1]; exact hfr a a1 a2, fun t ht => ?_, fun t ht => by rw [up_n (by omega)]; exact h2 t ht, rfl⟩
      by_cases e9 : t = 25
      · subst e9
        exact up_eq.trans hq
      · rw [up_ne (by omega)]
        exact h1 t (by omega)
    · refine g_aload0 dX0_layFirsts_10 ?_
      refine f_getr (r := o + 2) hs.1 (hs.lt 0 (by decide)) rfl rfl fl_X0_15 dX0_layFirsts_11 ?_
      refine g_iload2 dX0_layFirsts_14 ?_
      refine f_cS2w (atI hs.k2 (hs.lt 2 (by decide)) (by omega) (by rw [hs.n2]; omega)) oY_X5_at oT_X5_at lk_X0_58 rfl dX0_layFirsts_15 rfl (Or.inl rfl) ?_
      rw [h3 k (Int.le_refl _)]
      refine g_istore3 dX0_layFirsts_18 rfl (by decide) ?_
      refine g_aload0 dX0_layFirsts_19 ?_
      refine f_getr (r := o + 1) hs.1 (hs.lt 0 (by decide)) rfl rfl fl_X0_9 dX0_layFirsts_20 ?_
      refine g_iload2 dX0_layFirsts_23 ?_
      refine g_iload1 dX0_layFirsts_24 ?_
      refine f_cS3d (putI hs.k1 (hs.lt 1 (by decide)) (by omega) (by rw [hs.n1]; omega)) oY_X5_put oT_X5_put lk_X0_39 rfl dX0_layFirsts_25 rfl (Or.inl rfl) ?_
      refine g_aload0 dX0_layFirsts_28 ?_
      refine f_getr (r := o + 2) hs.1 (hs.lt 0 (by decide)) rfl rfl fl_X0_15 dX0_layFirsts_29 ?_
      refine g_iload2 dX0_layFirsts_32 ?_
      refine g_iload1 dX0_layFirsts_33 ?_
      refine f_cS3d (putI hs.k2 (hs.lt 2 (by decide)) (by omega) (by rw [hs.n2]; omega)) oY_X5_put oT_X5_put lk_X0_39 rfl dX0_layFirsts_34 rfl (Or.inl rfl) ?_
      refine g_iload1 dX0_layFirsts_37 ?_
      refine g_iload3 dX0_layFirsts_38 ?_
      refine g_iadd dX0_layFirsts_39 ?_
      refine g_istore1 dX0_layFirsts_40 rfl (by decide) ?_
      refine g_iinc2 dX0_layFirsts_41 rfl (by decide) ?_
      refine g_goto (tgt := 4) dX0_layFirsts_44 rfl ?_
      refine ih (by omega) _ _ _ _ (by push_cast; omega) (by rw [hq, frI]) (fun a a1 a2 => by rw [up_n a2, up_n a1]; exact hfr a a1 a2) (fun t ht => ?_) (fun t ht => ?_) (fun t ht => ?_)
      · by_cases e9 : t = k
        · subst e9
          rw [up_ne (by omega), up_eq, hq]
        · rw [up_ne (by omega), up_ne (by omega)]
          exact h1 t (by omega)
      · by_cases e9 : t = k
        · subst e9
          rw [up_eq, hq]
        · rw [up_ne (by omega), up_ne (by omega)]
          exact h2 t (by omega)
      · rw [up_ne (by omega), up_ne (by omega)]
        exact h3 t (by omega)
  refine g_iconst dX0_layFirsts_0 ?_
  refine g_istore1 dX0_layFirsts_1 rfl (by decide) ?_
  refine g_iconst dX0_layFirsts_2 ?_
  refine g_istore2 dX0_layFirsts_3 rfl (by decide) ?_
  exact loop 0 (by decide) _ _ _ _ rfl rfl (fun a a1 a2 => rfl) (fun t ht => by omega) (fun t ht => by omega) (fun t ht => rfl)
end C27
