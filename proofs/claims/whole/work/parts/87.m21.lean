/-! The model's reader: notes, repeats -/
section C87
variable {g : gT} {σ τ : sT} {l : Nat → Nat}
theorem fine_y {N : Nat} {st : Int} {q : (Int → Int) × Nat} (h : PSm σ N st q τ) : Fw g zX6_isFine [.ref 92] τ l (iv 1) := by
  have h1 := isFine_m (g := g) (l := l) (σ := τ) (e := 0) h.2.1 ⟨by decide, by decide⟩
  rw [bvT rfl] at h1
  exact h1
theorem fine_n {st : Int} {e : Int × Nat} (h : PFm σ st e τ) : Fw g zX6_isFine [.ref 92] τ l (iv 0) := by
  have he := h.2.2.2.2
  have h1 := isFine_m (g := g) (l := l) (σ := τ) (e := e.1) h.2.1 ⟨by omega, by omega⟩
  rw [bvF (by omega)] at h1
  exact h1
theorem fails_f {st k pl : Int} {e : Int × Nat} (h : PFm σ st e τ) : FO g zX6_fails [.ref 92, iv k, iv pl] τ l τ := by
  have he := h.2.2.2.2
  exact fails_1 h.2.1 ⟨by omega, by omega⟩ (by omega)
theorem PSm.ad {N p : Nat} {st t : Int} {d : Int → Int} (h : PSm σ N st (d, p) τ) : PSm σ N st (adS d t, p) (up (up τ 94 (27 + d 9) t) 94 9 (d 9 + 1)) := (h.set (k := 27 + d 9) (v := t)).set (k := 9) (v := d 9 + 1)
theorem notes_m {N p : Nat} {st : Int} {d : Int → Int} (h : PSm σ N st (d, p) τ) (ho : SOK 0 d) {q : Nat} {t : Int} (hfr : τ 92 17 = (q : Int)) : Fn g zX6_notes 0 0 [.ref 92, iv t] τ l (Rv l (PFm σ st) (fun d2 ρ => PSm σ N st (d2, p) ρ ∧ ∀ a, a ≠ 94 → ρ a = τ a) (rNote d q t)) := by
  have o9 := ho.notes
  have r9 : τ 94 9 = d 9 := h.d (by decide) (by decide)
  have hfy := fine_y (g := g) (l := l) h
  refine Fn.of [some (.ref 92), some (iv t)] rfl (by decide) (Nat.le_of_ble_eq_true rfl) rfl ?_
  by_cases c : 40 ≤ d 9
  · refine g_aload0 dX6_notes_0 ?_
    refine f_cV0w (hfy) rfl (by decide) rfl oY_X6_isFine oI_X6_isFine lk_X6_230 rfl dX6_notes_1 rfl (Or.inl rfl) ?_
    refine g_if_ne ⟨by decide, by decide⟩ (tgt := 8) dX6_notes_4 rfl (fun h4 => ?_) (fun h4 => absurd h4 (by decide))
    refine g_aload0 dX6_notes_8 ?_
    refine f_getr (r := 94) rfl (by decide) rfl rfl fl_X6_13 dX6_notes_9 ?_
    refine g_bipush dX6_notes_12 (by decide) ?_
    refine f_iald rfl (by decide) ⟨by omega, by show _ < ((67 : Nat) : Int); omega⟩ dX6_notes_14 ?_
    rw [r9]
    refine g_bipush dX6_notes_15 (by decide) ?_
    refine g_icmp_ne ⟨by omega, by omega⟩ ⟨by omega, by omega⟩ (tgt := 30) dX6_notes_17 rfl (fun h17 => absurd h17 (by omega)) (fun h17 => ?_)
    refine g_aload0 dX6_notes_20 ?_
    refine g_iconst dX6_notes_21 ?_
    refine g_aload0 dX6_notes_22 ?_
    refine f_geti (J := 17) rfl (by decide) rfl rfl fl_X6_205 dX6_notes_23 ?_
    rw [hfr]
    refine f_cV2d (fails_0 h.2.1) rfl (by decide) rfl oY_X6_fails oI_X6_fails lk_X6_237 rfl dX6_notes_26 rfl (Or.inl rfl) ?_
    refine g_return rfl dX6_notes_29 ?_
    exact Rv.no (e := (4, q)) (by unfold rNote; rw [if_pos c]) (h.fail ⟨by decide, by decide⟩)
  · refine g_aload0 dX6_notes_0 ?_
    refine f_cV0w (hfy) rfl (by decide) rfl oY_X6_isFine oI_X6_isFine lk_X6_230 rfl dX6_notes_1 rfl (Or.inl rfl) ?_
    refine g_if_ne ⟨by decide, by decide⟩ (tgt := 8) dX6_notes_4 rfl (fun h4 => ?_) (fun h4 => absurd h4 (by decide))
    refine g_aload0 dX6_notes_8 ?_
    refine f_getr (r := 94) rfl (by decide) rfl rfl fl_X6_13 dX6_notes_9 ?_
    refine g_bipush dX6_notes_12 (by decide) ?_
    refine f_iald rfl (by decide) ⟨by omega, by show _ < ((67 : Nat) : Int); omega⟩ dX6_notes_14 ?_
    rw [r9]
    refine g_bipush dX6_notes_15 (by decide) ?_
    refine g_icmp_ne ⟨by omega, by omega⟩ ⟨by omega, by omega⟩ (tgt := 30) dX6_notes_17 rfl (fun h17 => ?_) (fun h17 => absurd h17 (by omega))
    refine g_aload0 dX6_notes_30 ?_
    refine f_getr (r := 94) rfl (by decide) rfl rfl fl_X6_13 dX6_notes_31 ?_
    refine g_bipush dX6_notes_34 (by decide) ?_
    refine g_aload0 dX6_notes_36 ?_
    refine f_getr (r := 94) rfl (by decide) rfl rfl fl_X6_13 dX6_notes_37 ?_
    refine g_bipush dX6_notes_40 (by decide) ?_
    refine f_iald rfl (by decide) ⟨by omega, by show _ < ((67 : Nat) : Int); omega⟩ dX6_notes_42 ?_
    rw [r9]
    refine g_iadd dX6_notes_43 ?_
    refine g_iload1 dX6_notes_44 ?_
    refine f_iast rfl (by decide) ⟨by omega, by show _ < ((67 : Nat) : Int); omega⟩ dX6_notes_45 ?_
    refine g_aload0 dX6_notes_46 ?_
    refine f_getr (r := 94) rfl (by decide) rfl rfl fl_X6_13 dX6_notes_47 ?_
    refine g_bipush dX6_notes_50 (by decide) ?_
    refine g_dup2 rfl rfl dX6_notes_52 ?_
    refine f_iald rfl (by decide) ⟨by omega, by show _ < ((67 : Nat) : Int); omega⟩ dX6_notes_53 ?_
    rw [up_ne (fun z => by omega), r9]
    refine g_iconst dX6_notes_54 ?_
    refine g_iadd dX6_notes_55 ?_
    refine f_iast rfl (by decide) ⟨by omega, by show _ < ((67 : Nat) : Int); omega⟩ dX6_notes_56 ?_
    refine g_return rfl dX6_notes_57 ?_
    exact Rv.yes (q := adS d t) (by unfold rNote; rw [if_neg c]) ⟨h.ad, fun a ha => by rw [up_n ha, up_n ha]⟩
theorem notes_f {st t : Int} {e : Int × Nat} (h : PFm σ st e τ) : FO g zX6_notes [.ref 92, iv t] τ l τ := by
  refine Fn.of [some (.ref 92), some (iv t)] rfl (by decide) (Nat.le_of_ble_eq_true rfl) rfl ?_
  refine g_aload0 dX6_notes_0 ?_
  refine f_cV0w (fine_n h) rfl (by decide) rfl oY_X6_isFine oI_X6_isFine lk_X6_230 rfl dX6_notes_1 rfl (Or.inl rfl) ?_
  refine g_if_ne ⟨by decide, by decide⟩ (tgt := 8) dX6_notes_4 rfl (fun h4 => absurd h4 (by decide)) (fun h4 => ?_)
  refine g_return rfl dX6_notes_7 ?_
  exact FO.ret rfl
/-- what repeats makes of a bracket that was begun at a note -/
def rRep (T : Int → Int) (N : Nat) (d : Int → Int) (b : Int) (p : Nat) : Sum (Int × Nat) ((Int → Int) × Nat) := match rNum T N 1 9 p with
  | .inl e => .inl e
  | .inr (v, e) => if 40 < b + (d 9 - b) * v then .inl (4, sk isSp T N p) else .inr (rpF d (d 9 - b) ((d 9 - b) * (v - 1)).toNat, e)
theorem wTu_n {f : Int → Int} {j : Int} (h : 0 ≤ j) : wTu f j = f (27 + j) := by unfold wTu; rw [Int.toNat_of_nonneg h]
theorem repeats_m {N p : Nat} {st : Int} {d : Int → Int} (hT : TX (σ 105) N) (hln : σ 92 15 = (N : Int)) (h : PSm σ N st (d, p) τ) (ho : SOK 0 d) {b : Int} (hb : 0 ≤ b ∧ b ≤ d 9) : Fn g zX6_repeats 0 0 [.ref 92, iv b] τ l (Rv l (PFm σ st) (fun x ρ => PSm σ N st x ρ ∧ ρ 106 = τ 106) (rRep (σ 105) N d b p)) := by
  have o9 := ho.notes
  refine Fn.of [some (.ref 92), some (iv b), none, none, none] rfl (by decide) (Nat.le_of_ble_eq_true rfl) rfl ?_
  rcases hr1 : rNum (σ 105) N 1 9 p with e | ⟨v, e⟩
  · refine g_aload0 dX6_repeats_0 ?_
    refine g_iconst dX6_repeats_1 ?_
    refine g_bipush dX6_repeats_2 (by decide) ?_
    refine f_cV2q (number_n hT hln h ⟨by decide, by decide⟩ ⟨by decide, by decide⟩ hr1) rfl (by decide) rfl oY_X6_number oI_X6_number lk_X6_250 rfl dX6_repeats_4 (by omega) (by omega) rfl (Or.inl rfl) (fun σ4 l4 h4 => ?_)
    have el4 := h4.1
    subst el4
    have F1 := h4.2.1
    have hb94 := h4.2.2
    refine g_istore2 dX6_repeats_7 rfl (by decide) ?_
    refine g_aload0 dX6_repeats_8 ?_
    refine f_getr (r := 94) rfl (by decide) rfl rfl fl_X6_13 dX6_repeats_9 ?_
    refine g_bipush dX6_repeats_12 (by decide) ?_
    refine f_iald rfl (by decide) ⟨by omega, by show _ < ((67 : Nat) : Int); omega⟩ dX6_repeats_14 ?_
    refine g_iload1 dX6_repeats_15 ?_
    refine g_isub dX6_repeats_16 ?_
    refine g_istore3 dX6_repeats_17 rfl (by decide) ?_
    refine g_aload0 dX6_repeats_18 ?_
    refine f_cV0w (fine_n F1) rfl (by decide) rfl oY_X6_isFine oI_X6_isFine lk_X6_230 rfl dX6_repeats_19 rfl (Or.inl rfl) ?_
    refine g_if_ne ⟨by decide, by decide⟩ (tgt := 26) dX6_repeats_22 rfl (fun h22 => absurd h22 (by decide)) (fun h22 => ?_)
    refine g_return rfl dX6_repeats_25 ?_
    exact Rv.no (by unfold rRep; simp only [hr1]) F1
  · have hrr : ∀ x : Sum (Int × Nat) ((Int → Int) × Nat), x = (if 40 < b + (d 9 - b) * v then .inl (4, sk isSp (σ 105) N p) else .inr (rpF d (d 9 - b) ((d 9 - b) * (v - 1)).toNat, e)) → rRep (σ 105) N d b p = x := fun x hx => by unfold rRep; simp only [hr1]; exact hx.symm
    refine g_aload0 dX6_repeats_0 ?_
    refine g_iconst dX6_repeats_1 ?_
    refine g_bipush dX6_repeats_2 (by decide) ?_
    refine f_cV2q (number_y hT hln h ⟨by decide, by decide⟩ ⟨by decide, by decide⟩ hr1) rfl (by decide) rfl oY_X6_number oI_X6_number lk_X6_250 rfl dX6_repeats_4 (by omega) (by omega) rfl (Or.inl rfl) (fun σ4 l4 h4 => ?_)
    have el4 := h4.1
    subst el4
    have Q1 := h4.2.1
    have hfr := h4.2.2.1
    have hv := rNum_r hr1
    obtain ⟨c, hc⟩ : ∃ c : Int, c = d 9 - b := ⟨_, rfl⟩
    obtain ⟨m, hm⟩ : ∃ m : Int, m = (v - 1) * c := ⟨_, rfl⟩
    have hm0 : 0 ≤ m := by rw [hm]; exact Int.mul_nonneg (by omega) (by omega)
    have hm1 : m ≤ 8 * 40 := by rw [hm]; exact Int.mul_le_mul (by omega) (by omega) (by omega) (by decide)
    have hcm : 0 < m → 1 ≤ c := fun z => by
      by_cases c0 : c = 0
      · rw [hm, c0, Int.mul_zero] at z; omega
      · omega
    have hme : b + (d 9 - b) * v = d 9 + m := by rw [hm, ← hc, Int.sub_mul, Int.one_mul, Int.mul_comm c v]; omega
    have hmt : ((d 9 - b) * (v - 1)).toNat = m.toNat := by rw [hm, ← hc, Int.mul_comm c]
    have r9 : σ4 94 9 = d 9 := Q1.d (by decide) (by decide)
    have hfy := fine_y (g := g) (l := l4) Q1
    refine g_istore2 dX6_repeats_7 rfl (by decide) ?_
    refine g_aload0 dX6_repeats_8 ?_
    refine f_getr (r := 94) rfl (by decide) rfl rfl fl_X6_13 dX6_repeats_9 ?_
    refine g_bipush dX6_repeats_12 (by decide) ?_
    refine f_iald rfl (by decide) ⟨by omega, by show _ < ((67 : Nat) : Int); omega⟩ dX6_repeats_14 ?_
    rw [r9]
    refine g_iload1 dX6_repeats_15 ?_
    refine g_isub dX6_repeats_16 ?_
    rw [← hc]
    refine g_istore3 dX6_repeats_17 rfl (by decide) ?_
    refine g_aload0 dX6_repeats_18 ?_
    refine f_cV0w (hfy) rfl (by decide) rfl oY_X6_isFine oI_X6_isFine lk_X6_230 rfl dX6_repeats_19 rfl (Or.inl rfl) ?_
    refine g_if_ne ⟨by decide, by decide⟩ (tgt := 26) dX6_repeats_22 rfl (fun h22 => ?_) (fun h22 => absurd h22 (by decide))
    refine g_aload0 dX6_repeats_26 ?_
    refine f_getr (r := 94) rfl (by decide) rfl rfl fl_X6_13 dX6_repeats_27 ?_
    refine g_bipush dX6_repeats_30 (by decide) ?_
    refine f_iald rfl (by decide) ⟨by omega, by show _ < ((67 : Nat) : Int); omega⟩ dX6_repeats_32 ?_
    rw [r9]
    refine g_iload2 dX6_repeats_33 ?_
    refine g_iconst dX6_repeats_34 ?_
    refine g_isub dX6_repeats_35 ?_
    refine g_iload3 dX6_repeats_36 ?_
    refine g_imul dX6_repeats_37 ?_
    rw [← hm]
    refine g_iadd dX6_repeats_38 ?_
    refine g_bipush dX6_repeats_39 (by decide) ?_
    refine g_icmp_le ⟨by omega, by omega⟩ ⟨by omega, by omega⟩ (tgt := 54) dX6_repeats_41 rfl (fun h41 => ?_) (fun h41 => ?_)
    · refine g_iconst dX6_repeats_54 ?_
      refine g_istore4 dX6_repeats_55 rfl (by decide) ?_
      have loop : ∀ k : Nat, k ≤ m.toNat → ∀ (i : Int) (ρ : sT), i = (k : Int) → PSm σ N st (rpF d c k, e) ρ → ρ 106 = τ 106 → FW g zX6_repeats 0 0 (Rv l4 (PFm σ st) (fun x ρ => PSm σ N st x ρ ∧ ρ 106 = τ 106) (rRep (σ 105) N d b p)) 57 [some (.ref 92), some (iv b), some (iv v), some (iv c), some (iv i)] [] ρ l4 := by
        refine loopUp _ (fun k hk ih i ρ hi Qk h6k => ?_)
        subst hi
        have h9k := rpF_9 d c k
        have rk9 : ρ 94 9 = rpF d c k 9 := Qk.d (by decide) (by decide)
        refine g_iload4 dX6_repeats_57 ?_
        refine g_iload2 dX6_repeats_59 ?_
        refine g_iconst dX6_repeats_60 ?_
        refine g_isub dX6_repeats_61 ?_
        refine g_iload3 dX6_repeats_62 ?_
        refine g_imul dX6_repeats_63 ?_
        rw [← hm]
        refine g_icmp_ge ⟨by omega, by omega⟩ ⟨by omega, by omega⟩ (tgt := 116) dX6_repeats_64 rfl (fun h64 => ?_) (fun h64 => ?_)
        · refine g_return rfl dX6_repeats_116 ?_
          have ek : k = m.toNat := by omega
          exact Rv.yes (hrr _ (by rw [if_neg (by omega), hmt, ← hc, ← ek])) ⟨Qk, h6k⟩
        · refine g_aload0 dX6_repeats_67 ?_
          refine f_getr (r := 94) rfl (by decide) rfl rfl fl_X6_13 dX6_repeats_68 ?_
          refine g_bipush dX6_repeats_71 (by decide) ?_
          refine g_aload0 dX6_repeats_73 ?_
          refine f_getr (r := 94) rfl (by decide) rfl rfl fl_X6_13 dX6_repeats_74 ?_
          refine g_bipush dX6_repeats_77 (by decide) ?_
          refine f_iald rfl (by decide) ⟨by omega, by show _ < ((67 : Nat) : Int); omega⟩ dX6_repeats_79 ?_
          rw [rk9]
          refine g_iadd dX6_repeats_80 ?_
          refine g_aload0 dX6_repeats_81 ?_
          refine f_getr (r := 94) rfl (by decide) rfl rfl fl_X6_13 dX6_repeats_82 ?_
          refine g_bipush dX6_repeats_85 (by decide) ?_
          refine g_aload0 dX6_repeats_87 ?_
          refine f_getr (r := 94) rfl (by decide) rfl rfl fl_X6_13 dX6_repeats_88 ?_
          refine g_bipush dX6_repeats_91 (by decide) ?_
          refine f_iald rfl (by decide) ⟨by omega, by show _ < ((67 : Nat) : Int); omega⟩ dX6_repeats_93 ?_
          refine g_iadd dX6_repeats_94 ?_
          rw [rk9]
          refine g_iload3 dX6_repeats_95 ?_
          refine g_isub dX6_repeats_96 ?_
          refine f_iald rfl (by decide) ⟨by omega, by show _ < ((67 : Nat) : Int); omega⟩ dX6_repeats_97 ?_
          rw [show (27 : Int) + rpF d c k 9 - c = 27 + (rpF d c k 9 - c) from by omega, Qk.d (by omega) (by omega), show rpF d c k (27 + (rpF d c k 9 - c)) = wTu (rpF d c k) (rpF d c k 9 - c) from (wTu_n (by omega)).symm]
          refine f_iast rfl (by decide) ⟨by omega, by show _ < ((67 : Nat) : Int); omega⟩ dX6_repeats_98 ?_
          refine g_aload0 dX6_repeats_99 ?_
          refine f_getr (r := 94) rfl (by decide) rfl rfl fl_X6_13 dX6_repeats_100 ?_
          refine g_bipush dX6_repeats_103 (by decide) ?_
          refine g_dup2 rfl rfl dX6_repeats_105 ?_
          refine f_iald rfl (by decide) ⟨by omega, by show _ < ((67 : Nat) : Int); omega⟩ dX6_repeats_106 ?_
          rw [up_ne (fun z => by omega), rk9]
          refine g_iconst dX6_repeats_107 ?_
          refine g_iadd dX6_repeats_108 ?_
          refine f_iast rfl (by decide) ⟨by omega, by show _ < ((67 : Nat) : Int); omega⟩ dX6_repeats_109 ?_
          refine g_iinc4 dX6_repeats_110 rfl (by decide) ?_
          refine g_goto (tgt := 57) dX6_repeats_113 rfl ?_
          exact ih (by omega) _ _ (by omega) Qk.ad (by rw [up_n (by decide), up_n (by decide)]; exact h6k)
      exact loop 0 (Nat.zero_le _) _ _ rfl Q1 (h4.2.2.2 106 (by decide))
    · refine g_aload0 dX6_repeats_44 ?_
      refine g_iconst dX6_repeats_45 ?_
      refine g_aload0 dX6_repeats_46 ?_
      refine f_geti (J := 17) rfl (by decide) rfl rfl fl_X6_205 dX6_repeats_47 ?_
      rw [hfr]
      refine f_cV2d (fails_0 Q1.2.1) rfl (by decide) rfl oY_X6_fails oI_X6_fails lk_X6_237 rfl dX6_repeats_50 rfl (Or.inl rfl) ?_
      refine g_return rfl dX6_repeats_53 ?_
      exact Rv.no (e := (4, sk isSp (σ 105) N p)) (hrr _ (by rw [if_pos (by omega)])) (Q1.fail ⟨by decide, by decide⟩)
theorem rRep_ok {T : Int → Int} {N p e : Nat} {d d2 : Int → Int} {b : Int} (ho : SOK 0 d) (hb : 0 ≤ b ∧ b ≤ d 9) (h : rRep T N d b p = .inr (d2, e)) : SOK 0 d2 ∧ d 9 ≤ d2 9 := by
  unfold rRep at h
  rcases hr : rNum T N 1 9 p with x | ⟨v, e1⟩
  · rw [hr] at h; cases h
  · rw [hr] at h
    simp only at h
    split at h
    · cases h
    · next c =>
      cases h
      have hv := rNum_r hr
      have hm0 : 0 ≤ (d 9 - b) * (v - 1) := Int.mul_nonneg (by omega) (by omega)
      have hme : (d 9 - b) * v = (d 9 - b) * (v - 1) + (d 9 - b) := by rw [Int.mul_sub, Int.mul_one]; omega
      refine ⟨?_, by rw [rpF_9]; omega⟩
      by_cases c0 : d 9 - b = 0
      · rw [c0, Int.zero_mul]; exact ho
      · exact rpF_ok ho (by omega) (by omega) _ (by omega)
theorem rRep_e {T : Int → Int} {N p e : Nat} {d d2 : Int → Int} {b : Int} (hp : p ≤ N) (h : rRep T N d b p = .inr (d2, e)) : p ≤ e := by
  unfold rRep at h
  rcases hr : rNum T N 1 9 p with x | ⟨v, e1⟩
  · rw [hr] at h; cases h
  · rw [hr] at h
    simp only at h
    split at h
    · cases h
    · cases h
      have hv := (rNum_r hr).2.2.2.2
      have h2 := sk_le (Q := isSp) (T := T) hp
      have h3 := sk_le (Q := isDg) (T := T) h2.2
      omega
end C87
