/-! The model's reader: numbers -/
section C85
variable {g : gT} {σ : sT} {l : Nat → Nat}
/-- what a number's reading leaves -/
def Nn (σ τ : sT) : Prop := (∀ a, a ≠ 92 → τ a = σ a) ∧ ∀ j, j ≠ 16 → j ≠ 17 → j ≠ 18 → j ≠ 19 → τ 92 j = σ 92 j
theorem Nn.refl (σ : sT) : Nn σ σ := ⟨fun _ _ => rfl, fun _ _ _ _ _ => rfl⟩
theorem Nn.trans {τ ρ : sT} (h : Nn σ τ) (h2 : Nn τ ρ) : Nn σ ρ := ⟨fun a a0 => (h2.1 a a0).trans (h.1 a a0), fun j a b c d => (h2.2 j a b c d).trans (h.2 j a b c d)⟩
theorem Nn.up {τ : sT} {j v : Int} (h : Nn σ τ) (hj : j = 16 ∨ j = 17 ∨ j = 18 ∨ j = 19) : Nn σ (up τ 92 j v) := ⟨fun a a0 => by rw [up_n a0]; exact h.1 a a0, fun i a b c d => by rw [up_ne (fun z => by omega)]; exact h.2 i a b c d⟩
def Nz (σ : sT) (l : Nat → Nat) (lo : Int) (sp : Nat) (r : Sum (Int × Nat) (Int × Nat)) : mO → sT → (Nat → Nat) → Prop := fun o τ l' => l' = l ∧ Nn σ τ ∧ match r with
  | .inl e => o = .inl (some (iv lo)) ∧ τ 92 18 = e.1 ∧ τ 92 19 = (e.2 : Int)
  | .inr q => o = .inl (some (iv q.1)) ∧ τ 92 16 = (q.2 : Int) ∧ τ 92 18 = 0 ∧ τ 92 19 = σ 92 19 ∧ τ 92 17 = (sp : Int)
theorem number_m {T : Int → Int} {N : Nat} (hT : TX T N) (hln : σ 92 15 = (N : Int)) (htx : σ 105 = T) {p : Nat} (hat : σ 92 16 = (p : Int)) (hp : p ≤ N) (h18 : σ 92 18 = 0) {lo hi : Int} (hlo : R32 lo) (hhi : R32 hi) : Fn g zX6_number 0 0 [.ref 92, iv lo, iv hi] σ l (Nz σ l lo (sk isSp T N p) (rNum T N lo hi p)) := by
  have hN := hT.1
  have hs := sk_le (Q := isSp) (T := T) hp
  have hsg := sgn_rng (p := (sk isSp T N p)) hT
  have hvr := nuF_rng (T := T) (N - (sk isSp T N p)) (sk isSp T N p) 0 (by decide) (by decide)
  have hM1 : Nn σ (up (up σ 92 16 ((sk isSp T N p) : Int)) 92 17 ((sk isSp T N p) : Int)) := ((Nn.refl σ).up (Or.inl rfl)).up (Or.inr (Or.inl rfl))
  have hfr : (up (up σ 92 16 ((sk isSp T N p) : Int)) 92 17 ((sk isSp T N p) : Int)) 92 17 = ((sk isSp T N p) : Int) := up_eq
  have hln1 : (up (up σ 92 16 ((sk isSp T N p) : Int)) 92 17 ((sk isSp T N p) : Int)) 92 15 = (N : Int) := (up_ne (fun z => by omega)).trans ((up_ne (fun z => by omega)).trans hln)
  have htx1 : (up (up σ 92 16 ((sk isSp T N p) : Int)) 92 17 ((sk isSp T N p) : Int)) 105 = T := (up_n (by decide)).trans ((up_n (by decide)).trans htx)
  have h181 : (up (up σ 92 16 ((sk isSp T N p) : Int)) 92 17 ((sk isSp T N p) : Int)) 92 18 = 0 := (up_ne (fun z => by omega)).trans ((up_ne (fun z => by omega)).trans h18)
  have h191 : (up (up σ 92 16 ((sk isSp T N p) : Int)) 92 17 ((sk isSp T N p) : Int)) 92 19 = σ 92 19 := (up_ne (fun z => by omega)).trans (up_ne (fun z => by omega))
  have hat1 : (up (up σ 92 16 ((sk isSp T N p) : Int)) 92 17 ((sk isSp T N p) : Int)) 92 16 = ((sk isSp T N p) : Int) := (up_ne (fun z => by omega)).trans up_eq
  obtain ⟨ρ, hρ⟩ : ∃ ρ : sT, ρ = (up (up σ 92 16 ((sk isSp T N p) : Int)) 92 17 ((sk isSp T N p) : Int)) := ⟨_, rfl⟩
  have hlook : FX g zX6_looks [.ref 92] σ l (iv (sgn T N (sk isSp T N p))) ρ := by rw [hρ]; exact looks_m hT hln htx hat hp
  rw [← hρ] at hM1 hfr hln1 htx1 h181 h191 hat1
  refine Fn.of [some (.ref 92), some (iv lo), some (iv hi), none] rfl (by decide) (Nat.le_of_ble_eq_true rfl) rfl ?_
  have fin : isDg (sgn T N (sk isSp T N p)) = true → FW g zX6_number 0 0 (Nz σ l lo (sk isSp T N p) (rNum T N lo hi p)) 81 [some (.ref 92), some (iv lo), some (iv hi), some (iv (nuV T N (sk isSp T N p) 0))] [] (up ρ 92 16 (sk isDg T N (sk isSp T N p) : Int)) l := by
    intro hdg
    have hv0 : 0 ≤ (nuV T N (sk isSp T N p) 0) ∧ (nuV T N (sk isSp T N p) 0) ≤ 1000000 := hvr
    by_cases c : lo ≤ (nuV T N (sk isSp T N p) 0) ∧ (nuV T N (sk isSp T N p) 0) ≤ hi
    · have hrn : rNum T N lo hi p = .inr ((nuV T N (sk isSp T N p) 0), sk isDg T N (sk isSp T N p)) := by unfold rNum; rw [if_pos hdg, if_pos c]
      rw [hrn]
      have hfine := isFine_m (g := g) (l := l) (σ := up ρ 92 16 (sk isDg T N (sk isSp T N p) : Int)) (e := 0) ((up_ne (fun z => by omega)).trans h181) ⟨by decide, by decide⟩
      rw [bvT rfl] at hfine
      have hin := isIn_ok (g := g) (σ := up ρ 92 16 (sk isDg T N (sk isSp T N p) : Int)) (l := l) (x := (nuV T N (sk isSp T N p) 0)) (a := lo) (b := hi) (by omega) (by omega) (by omega)
      rw [bvT c] at hin
      refine g_iload3 dX6_number_81 ?_
      refine g_i2l ⟨by omega, by omega⟩ dX6_number_82 ?_
      refine g_iload1 dX6_number_83 ?_
      refine g_i2l hlo dX6_number_84 ?_
      refine g_iload2 dX6_number_85 ?_
      refine g_i2l hhi dX6_number_86 ?_
      refine f_cS3w (hin) oY_X6_isIn oT_X6_isIn lk_X6_83 rfl dX6_number_87 rfl (Or.inl rfl) ?_
      refine g_if_ne ⟨by decide, by decide⟩ (tgt := 102) dX6_number_90 rfl (fun h90 => ?_) (fun h90 => absurd h90 (by decide))
      refine g_aload0 dX6_number_102 ?_
      refine f_cV0w (hfine) rfl (by decide) rfl oY_X6_isFine oI_X6_isFine lk_X6_230 rfl dX6_number_103 rfl (Or.inl rfl) ?_
      refine g_if_eq ⟨by decide, by decide⟩ (tgt := 113) dX6_number_106 rfl (fun h106 => absurd h106 (by decide)) (fun h106 => ?_)
      refine g_iload3 dX6_number_109 ?_
      refine g_goto (tgt := 114) dX6_number_110 rfl ?_
      refine g_iretI rfl dX6_number_114 ?_
      exact fn_ret ⟨rfl, hM1.up (Or.inl rfl), rfl, up_eq, (up_ne (fun z => by omega)).trans h181, (up_ne (fun z => by omega)).trans h191, (up_ne (fun z => by omega)).trans hfr⟩
    · have hrn : rNum T N lo hi p = .inl (2, (sk isSp T N p)) := by unfold rNum; rw [if_pos hdg, if_neg c]
      rw [hrn]
      have hin := isIn_ok (g := g) (σ := up ρ 92 16 (sk isDg T N (sk isSp T N p) : Int)) (l := l) (x := (nuV T N (sk isSp T N p) 0)) (a := lo) (b := hi) (by omega) (by omega) (by omega)
      rw [bvF c] at hin
      have hfine := isFine_m (g := g) (l := l) (σ := up (up (up ρ 92 16 (sk isDg T N (sk isSp T N p) : Int)) 92 18 2) 92 19 ((sk isSp T N p) : Int)) (e := 2) ((up_ne (fun z => by omega)).trans up_eq) ⟨by decide, by decide⟩
      rw [bvF (by decide)] at hfine
      refine g_iload3 dX6_number_81 ?_
      refine g_i2l ⟨by omega, by omega⟩ dX6_number_82 ?_
      refine g_iload1 dX6_number_83 ?_
      refine g_i2l hlo dX6_number_84 ?_
      refine g_iload2 dX6_number_85 ?_
      refine g_i2l hhi dX6_number_86 ?_
      refine f_cS3w (hin) oY_X6_isIn oT_X6_isIn lk_X6_83 rfl dX6_number_87 rfl (Or.inl rfl) ?_
      refine g_if_ne ⟨by decide, by decide⟩ (tgt := 102) dX6_number_90 rfl (fun h90 => absurd h90 (by decide)) (fun h90 => ?_)
      refine g_aload0 dX6_number_93 ?_
      refine g_iconst dX6_number_94 ?_
      refine g_aload0 dX6_number_95 ?_
      refine f_geti (J := 17) rfl (by decide) rfl rfl fl_X6_205 dX6_number_96 ?_
      rw [up_ne (fun z => by omega), hfr]
      refine f_cV2d (fails_0 ((up_ne (fun z => by omega)).trans h181)) rfl (by decide) rfl oY_X6_fails oI_X6_fails lk_X6_237 rfl dX6_number_99 rfl (Or.inl rfl) ?_
      refine g_aload0 dX6_number_102 ?_
      refine f_cV0w (hfine) rfl (by decide) rfl oY_X6_isFine oI_X6_isFine lk_X6_230 rfl dX6_number_103 rfl (Or.inl rfl) ?_
      refine g_if_eq ⟨by decide, by decide⟩ (tgt := 113) dX6_number_106 rfl (fun h106 => ?_) (fun h106 => absurd h106 (by decide))
      refine g_iload1 dX6_number_113 ?_
      refine g_iretI rfl dX6_number_114 ?_
      exact fn_ret ⟨rfl, ((hM1.up (Or.inl rfl)).up (Or.inr (Or.inr (Or.inl rfl)))).up (Or.inr (Or.inr (Or.inr rfl))), rfl, (up_ne (fun z => by omega)).trans up_eq, up_eq⟩
  have loop : isDg (sgn T N (sk isSp T N p)) = true → ∀ d x : Nat, N - x = d → x ≤ N → ∀ v : Int, (0 ≤ v ∧ v ≤ 1000000) → nuV T N x v = (nuV T N (sk isSp T N p) 0) → sk isDg T N x = sk isDg T N (sk isSp T N p) → FW g zX6_number 0 0 (Nz σ l lo (sk isSp T N p) (rNum T N lo hi p)) 32 [some (.ref 92), some (iv lo), some (iv hi), some (iv v)] [] (up ρ 92 16 (x : Int)) l := by
    intro hdg d
    induction d with
    | zero =>
      intro x hd hx v hv hnu he
      have hsx : sgn T N x = -1 := by unfold sgn; rw [if_neg (by omega)]
      have hvV : v = (nuV T N (sk isSp T N p) 0) := by rw [← hnu, nu_e (by omega)]
      have hxe : x = sk isDg T N (sk isSp T N p) := by rw [← he, sk_e (by omega)]
      refine g_aload0 dX6_number_32 ?_
      refine g_aload0 dX6_number_33 ?_
      refine f_geti (J := 16) rfl (by decide) rfl rfl fl_X6_199 dX6_number_34 ?_
      rw [up_eq]
      refine f_cV1w (byteAt_m hT ((up_ne (fun z => by omega)).trans hln1) ((up_n (by decide)).trans htx1) (by omega)) rfl (by decide) rfl oY_X6_byteAt oI_X6_byteAt lk_X6_202 rfl dX6_number_37 rfl (Or.inl rfl) ?_
      refine f_cS1w (isDigit_m ⟨by have := sgn_rng (p := x) hT; omega, by have := sgn_rng (p := x) hT; omega⟩) oY_X6_isDigit oT_X6_isDigit lk_X6_234 rfl dX6_number_40 rfl (Or.inl rfl) ?_
      refine g_ifeqB (tgt := 81) dX6_number_43 rfl (fun h43 => ?_) (fun h43 => absurd h43 (by rw [hsx]; decide))
      rw [hvV, hxe]
      exact fin hdg
    | succ d ih =>
      intro x hd hx v hv hnu he
      have hlt : x < N := by omega
      have hm8 : isDg (sgn T N x) = true → 48 ≤ sgn T N x ∧ sgn T N x ≤ 57 := fun h9 => of_decide_eq_true h9
      have hmr : isDg (sgn T N x) = true → R32 (10 * v + sgn T N x - 48) := fun h9 => by
        have := hm8 h9
        exact ⟨by omega, by omega⟩
      replace hm8 : isDg (sgn T N x) = true → 48 ≤ sgn T N x := fun h9 => (of_decide_eq_true h9 : 48 ≤ sgn T N x ∧ sgn T N x ≤ 57).1
      refine g_aload0 dX6_number_32 ?_
      refine g_aload0 dX6_number_33 ?_
      refine f_geti (J := 16) rfl (by decide) rfl rfl fl_X6_199 dX6_number_34 ?_
      rw [up_eq]
      refine f_cV1w (byteAt_m hT ((up_ne (fun z => by omega)).trans hln1) ((up_n (by decide)).trans htx1) (by omega)) rfl (by decide) rfl oY_X6_byteAt oI_X6_byteAt lk_X6_202 rfl dX6_number_37 rfl (Or.inl rfl) ?_
      refine f_cS1w (isDigit_m ⟨by have := sgn_rng (p := x) hT; omega, by have := sgn_rng (p := x) hT; omega⟩) oY_X6_isDigit oT_X6_isDigit lk_X6_234 rfl dX6_number_40 rfl (Or.inl rfl) ?_
      refine g_ifeqB (tgt := 81) dX6_number_43 rfl (fun h43 => ?_) (fun h43 => ?_)
      · have hvV : v = (nuV T N (sk isSp T N p) 0) := by rw [← hnu, nu_e (fun z => h43 (by rw [sgn_at z.1]; exact z.2))]
        have hxe : x = sk isDg T N (sk isSp T N p) := by rw [← he, sk_e (Q := isDg) (p := x) (fun z => h43 (by rw [sgn_at z.1]; exact z.2))]
        rw [hvV, hxe]
        exact fin hdg
      · refine g_ldc (v := Int32.ofInt (1000000)) kc_X6_159 dX6_number_46 ?_
        refine g_bipush dX6_number_48 (by decide) ?_
        refine g_iload3 dX6_number_50 ?_
        refine g_imul dX6_number_51 ?_
        refine g_aload0 dX6_number_52 ?_
        refine g_aload0 dX6_number_53 ?_
        refine f_geti (J := 16) rfl (by decide) rfl rfl fl_X6_199 dX6_number_54 ?_
        rw [up_eq]
        refine f_cV1w (byteAt_m hT ((up_ne (fun z => by omega)).trans hln1) ((up_n (by decide)).trans htx1) (by omega)) rfl (by decide) rfl oY_X6_byteAt oI_X6_byteAt lk_X6_202 rfl dX6_number_57 rfl (Or.inl rfl) ?_
        refine g_iadd dX6_number_60 ?_
        refine g_bipush dX6_number_61 (by decide) ?_
        refine g_isub dX6_number_63 ?_
        refine g_mmin ⟨by decide, by decide⟩ (hmr h43) ma_X6_146 ⟨by decide, Nat.le_of_ble_eq_true rfl⟩ dX6_number_64 ?_
        refine g_istore3 dX6_number_67 rfl (by decide) ?_
        refine g_aload0 dX6_number_68 ?_
        refine g_dup rfl dX6_number_69 ?_
        refine f_geti (J := 16) rfl (by decide) rfl rfl fl_X6_199 dX6_number_70 ?_
        rw [up_eq]
        refine g_iconst dX6_number_73 ?_
        refine g_iadd dX6_number_74 ?_
        refine f_puti (J := 16) rfl (by decide) rfl rfl fl_X6_199 rfl (fun _ _ _ h => by cases h; rfl) dX6_number_75 ?_
        refine g_goto (tgt := 32) dX6_number_78 rfl ?_
        rw [up_up]
        refine ih (x + 1) (by omega) (by omega) _ ?_ ?_ (by rw [← he, ← sk_s hlt (by rw [← sgn_at (T := T) (N := N) hlt]; exact h43)])
        · have h9 := hmr h43
          have h8 : 48 ≤ sgn T N x := hm8 h43
          omega
        · rw [← hnu, nu_s hlt (by rw [← sgn_at (T := T) (N := N) hlt]; exact h43), sgn_at hlt, Int.min_comm]
  have hf0 := isFine_m (g := g) (l := l) (σ := σ) (e := 0) h18 ⟨by decide, by decide⟩
  rw [bvT rfl] at hf0
  by_cases hdg : isDg (sgn T N (sk isSp T N p)) = true
  · have hd1 := isDigit_m (g := g) (l := l) (σ := ρ) (c := sgn T N (sk isSp T N p)) ⟨by omega, by omega⟩
    rw [bvT hdg] at hd1
    refine g_aload0 dX6_number_0 ?_
    refine f_cV0w (hf0) rfl (by decide) rfl oY_X6_isFine oI_X6_isFine lk_X6_230 rfl dX6_number_1 rfl (Or.inl rfl) ?_
    refine g_if_ne ⟨by decide, by decide⟩ (tgt := 9) dX6_number_4 rfl (fun h4 => ?_) (fun h4 => absurd h4 (by decide))
    refine g_aload0 dX6_number_9 ?_
    refine f_cV0x (hlook) rfl (by decide) rfl oY_X6_looks oI_X6_looks lk_X6_216 rfl dX6_number_10 rfl (Or.inl rfl) ?_
    refine f_cS1w (hd1) oY_X6_isDigit oT_X6_isDigit lk_X6_234 rfl dX6_number_13 rfl (Or.inl rfl) ?_
    refine g_if_ne ⟨by decide, by decide⟩ (tgt := 30) dX6_number_16 rfl (fun h16 => ?_) (fun h16 => absurd h16 (by decide))
    refine g_iconst dX6_number_30 ?_
    refine g_istore3 dX6_number_31 rfl (by decide) ?_
    have h0 := loop hdg _ (sk isSp T N p) rfl hs.2 0 ⟨by decide, by decide⟩ rfl rfl
    rw [up_id hat1] at h0
    exact h0
  · have hd1 := isDigit_m (g := g) (l := l) (σ := ρ) (c := sgn T N (sk isSp T N p)) ⟨by omega, by omega⟩
    rw [bvF hdg] at hd1
    have hrn : rNum T N lo hi p = .inl (1, (sk isSp T N p)) := by unfold rNum; rw [if_neg hdg]
    rw [hrn]
    refine g_aload0 dX6_number_0 ?_
    refine f_cV0w (hf0) rfl (by decide) rfl oY_X6_isFine oI_X6_isFine lk_X6_230 rfl dX6_number_1 rfl (Or.inl rfl) ?_
    refine g_if_ne ⟨by decide, by decide⟩ (tgt := 9) dX6_number_4 rfl (fun h4 => ?_) (fun h4 => absurd h4 (by decide))
    refine g_aload0 dX6_number_9 ?_
    refine f_cV0x (hlook) rfl (by decide) rfl oY_X6_looks oI_X6_looks lk_X6_216 rfl dX6_number_10 rfl (Or.inl rfl) ?_
    refine f_cS1w (hd1) oY_X6_isDigit oT_X6_isDigit lk_X6_234 rfl dX6_number_13 rfl (Or.inl rfl) ?_
    refine g_if_ne ⟨by decide, by decide⟩ (tgt := 30) dX6_number_16 rfl (fun h16 => absurd h16 (by decide)) (fun h16 => ?_)
    refine g_aload0 dX6_number_19 ?_
    refine g_iconst dX6_number_20 ?_
    refine g_aload0 dX6_number_21 ?_
    refine f_geti (J := 17) rfl (by decide) rfl rfl fl_X6_205 dX6_number_22 ?_
    rw [hfr]
    refine f_cV2d (fails_0 h181) rfl (by decide) rfl oY_X6_fails oI_X6_fails lk_X6_237 rfl dX6_number_25 rfl (Or.inl rfl) ?_
    refine g_iload1 dX6_number_28 ?_
    refine g_iretI rfl dX6_number_29 ?_
    exact fn_ret ⟨rfl, (hM1.up (Or.inr (Or.inr (Or.inl rfl)))).up (Or.inr (Or.inr (Or.inr rfl))), rfl, (up_ne (fun z => by omega)).trans up_eq, up_eq⟩
end C85
