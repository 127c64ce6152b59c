/-! Fingerings: laySteps, pitchOf, reckon, and what is asked of it -/
section C25
variable {g : gT} {σ : sT} {l : Nat → Nat}
def stp (w : Int) : Nat → Int
  | 0 => 1000 * w
  | k + 1 => stp w k * 94387 / 100000
theorem stp_rng {w : Int} (hw : 0 ≤ w) : ∀ k, 0 ≤ stp w k ∧ stp w k ≤ 1000 * w := by
  intro k
  induction k with
  | zero => unfold stp; omega
  | succ k ih => unfold stp; omega
theorem stp_dn {w : Int} (hw : 0 ≤ w) (k : Nat) : stp w (k + 1) ≤ stp w k := by
  have := stp_rng hw k
  show stp w k * 94387 / 100000 ≤ _
  omega
def stI (w j : Int) : Int := stp w j.toNat
theorem stI_nat {w : Int} {k : Nat} : stI w (k : Int) = stp w k := by unfold stI; rw [Int.toNat_natCast]
theorem laySteps_ok {w : Int} (hw : 0 ≤ w ∧ w ≤ 7000) : Fu g zX1_laySteps 0 0 [.ref 17, iv w] σ l (fun σ' l' => (∀ a, a ≠ 23 → σ' a = σ a) ∧ (∀ j, 0 ≤ j → j < 49 → σ' 23 j = stI w j) ∧ l' = l) := by
  refine Fn.of [some (.ref 17), some (iv w), none, none, none] rfl (by decide) (Nat.le_of_ble_eq_true rfl) rfl ?_
  have h23 : ln l 23 = 49 := rfl
  have loop : ∀ k : Nat, k ≤ 49 → ∀ (i s : Int) (τ : sT), i = (k : Int) → s = stp w k → (∀ a, a ≠ 23 → τ a = σ a) → (∀ j, 0 ≤ j → j < (k : Int) → τ 23 j = stI w j) → FW g zX1_laySteps 0 0 (fun q σ' l' => q = .inl none ∧ (∀ a, a ≠ 23 → σ' a = σ a) ∧ (∀ j, 0 ≤ j → j < 49 → σ' 23 j = stI w j) ∧ l' = l) 10 [some (.ref 17), some (iv w), some (lg s), none, some (iv i)] [] τ l := by
    refine loopUp 49 (fun k hk ih i s τ hi hs hfr hI => ?_)
    subst hi
    have hr := stp_rng hw.1 k
    refine g_iload4 dX1_laySteps_10 ?_
    refine g_bipush dX1_laySteps_12 (by decide) ?_
    refine g_icmp_gt ⟨by omega, by omega⟩ ⟨by omega, by omega⟩ (tgt := 44) dX1_laySteps_14 rfl (fun h14 => ?_) (fun h14 => ?_)
    · refine g_return rfl dX1_laySteps_44 ?_
      exact Fu.ret ⟨hfr, fun j h0 h1 => hI j h0 (by omega), rfl⟩
    · refine g_aload0 dX1_laySteps_17 ?_
      refine f_getr (r := 23) rfl (by decide) rfl rfl fl_X1_31 dX1_laySteps_18 ?_
      refine g_iload4 dX1_laySteps_21 ?_
      refine g_lload2 dX1_laySteps_23 ?_
      refine g_l2i dX1_laySteps_24 ?_
      refine f_cS3d (putI rfl (by decide) (by omega) (by omega)) oY_X5_put oT_X5_put lk_X1_65 rfl dX1_laySteps_25 rfl (Or.inl rfl) ?_
      refine g_lload2 dX1_laySteps_28 ?_
      refine g_ldc2 (v := Int64.ofInt (94387)) kl_X1_100 dX1_laySteps_29 ?_
      refine g_lmul dX1_laySteps_32 ?_
      refine g_ldc2 (v := Int64.ofInt (100000)) kl_X1_102 dX1_laySteps_33 ?_
      refine g_ldiv (by omega) (by decide) dX1_laySteps_36 ?_
      refine g_lstore2 dX1_laySteps_37 rfl (by decide) ?_
      refine g_iinc4 dX1_laySteps_38 rfl (by decide) ?_
      refine g_goto (tgt := 10) dX1_laySteps_41 rfl ?_
      refine ih (by omega) _ _ _ (by push_cast; omega) (by rw [hs]; rfl) (fun a ha => by rw [up_n ha]; exact hfr a ha) (fun j h0 h1 => ?_)
      by_cases e9 : j = (k : Int)
      · rw [e9, up_eq, hs, stI_nat]
      · rw [up_ne (by omega)]
        exact hI j h0 (by omega)
  refine g_ldc2 (v := Int64.ofInt (1000)) kl_X1_98 dX1_laySteps_0 ?_
  refine g_iload1 dX1_laySteps_3 ?_
  refine g_i2l ⟨by omega, by omega⟩ dX1_laySteps_4 ?_
  refine g_lmul dX1_laySteps_5 ?_
  refine g_lstore2 dX1_laySteps_6 rfl (by decide) ?_
  refine g_iconst dX1_laySteps_7 ?_
  refine g_istore4 dX1_laySteps_8 rfl (by decide) ?_
  exact loop 0 (by decide) _ _ _ rfl rfl (fun a ha => rfl) (fun j h0 h1 => by omega)
/-- the last step that is no shorter than w, from k on -/
def nd (T : Int → Int) (w : Int) : Nat → Nat → Nat
  | 0, k => k
  | f + 1, k => if w ≤ T (k + 1) then nd T w f (k + 1) else k
def pit (T : Int → Int) (len : Int) : Int := min (100 * (nd T (1000 * len) 47 0 : Int) + quoF (100 * (T (nd T (1000 * len) 47 0) - 1000 * len)) (T (nd T (1000 * len) 47 0) - T ((nd T (1000 * len) 47 0 : Int) + 1))) 4800
theorem nd_le (T : Int → Int) (w : Int) : ∀ f k, nd T w f k ≤ k + f := by
  intro f
  induction f with
  | zero => intro k; exact Nat.le_refl _
  | succ f ih => intro k; unfold nd; have := ih (k + 1); split <;> omega
theorem nd_ge (T : Int → Int) (w : Int) : ∀ f k : Nat, w ≤ T k → w ≤ T (nd T w f k) := by
  intro f
  induction f with
  | zero => intro k h; exact h
  | succ f ih =>
    intro k h
    unfold nd
    split
    · rename_i h2; exact ih (k + 1) (by push_cast; exact h2)
    · exact h
theorem pitchOf_ok {len : Int} (hT : ∀ j, 0 ≤ j → j < 49 → 0 ≤ σ 23 j ∧ σ 23 j ≤ 7000000) (hlen : 0 ≤ len ∧ 1000 * len ≤ σ 23 0) : Fw g zX1_pitchOf [.ref 17, iv len] σ l (iv (pit (σ 23) len)) := by
  refine Fn.of [some (.ref 17), some (iv len), none, none, none, none] rfl (by decide) (Nat.le_of_ble_eq_true rfl) rfl ?_
  have h23 : ln l 23 = 49 := rfl
  have hT0 := hT 0 (by omega) (by omega)
  have hn1 := nd_le (σ 23) (1000 * len) 47 0
  have hn2 := nd_ge (σ 23) (1000 * len) 47 0 (by exact hlen.2)
  have hTn := hT (nd (σ 23) (1000 * len) 47 0) (by omega) (by omega)
  have hTn1 := hT ((nd (σ 23) (1000 * len) 47 0 : Int) + 1) (by omega) (by omega)
  have fin : FW g zX1_pitchOf 0 0 (fun q σ' l' => q = .inl (some (iv (pit (σ 23) len))) ∧ σ' = σ ∧ l' = l) 34 [some (.ref 17), some (iv len), some (iv (1000 * len)), some (iv (nd (σ 23) (1000 * len) 47 0 : Int)), none, none] [] σ l := by
    have hq := @quoF_rng (100 * (σ 23 (nd (σ 23) (1000 * len) 47 0) - 1000 * len)) (σ 23 (nd (σ 23) (1000 * len) 47 0) - σ 23 ((nd (σ 23) (1000 * len) 47 0 : Int) + 1)) (by omega)
    unfold pit
    generalize nd (σ 23) (1000 * len) 47 0 = N at *
    refine g_aload0 dX1_pitchOf_34 ?_
    refine f_getr (r := 23) rfl (by decide) rfl rfl fl_X1_31 dX1_pitchOf_35 ?_
    refine g_iload3 dX1_pitchOf_38 ?_
    refine f_cS2w (atI rfl (by decide) (by omega) (by omega)) oY_X5_at oT_X5_at lk_X1_57 rfl dX1_pitchOf_39 rfl (Or.inl rfl) ?_
    refine g_istore4 dX1_pitchOf_42 rfl (by decide) ?_
    refine g_bipush dX1_pitchOf_44 (by decide) ?_
    refine g_iload3 dX1_pitchOf_46 ?_
    refine g_imul dX1_pitchOf_47 ?_
    refine g_bipush dX1_pitchOf_48 (by decide) ?_
    refine g_iload4 dX1_pitchOf_50 ?_
    refine g_iload2 dX1_pitchOf_52 ?_
    refine g_isub dX1_pitchOf_53 ?_
    refine g_imul dX1_pitchOf_54 ?_
    refine g_iload4 dX1_pitchOf_55 ?_
    refine g_aload0 dX1_pitchOf_57 ?_
    refine f_getr (r := 23) rfl (by decide) rfl rfl fl_X1_31 dX1_pitchOf_58 ?_
    refine g_iload3 dX1_pitchOf_61 ?_
    refine g_iconst dX1_pitchOf_62 ?_
    refine g_iadd dX1_pitchOf_63 ?_
    refine f_cS2w (atI rfl (by decide) (by omega) (by omega)) oY_X5_at oT_X5_at lk_X1_57 rfl dX1_pitchOf_64 rfl (Or.inl rfl) ?_
    refine g_isub dX1_pitchOf_67 ?_
    refine f_cS2w (quotient_ok ⟨by omega, by omega⟩ ⟨by omega, by omega⟩) oY_X5_quotient oT_X5_quotient lk_X1_95 rfl dX1_pitchOf_68 rfl (Or.inl rfl) ?_
    refine g_iadd dX1_pitchOf_71 ?_
    refine g_istore5 dX1_pitchOf_72 rfl (by decide) ?_
    refine g_iload5 dX1_pitchOf_74 ?_
    refine g_sipush dX1_pitchOf_76 (by decide) ?_
    refine g_mmin ⟨by omega, by omega⟩ ⟨by omega, by omega⟩ ma_X1_104 ⟨by decide, Nat.le_of_ble_eq_true rfl⟩ dX1_pitchOf_79 ?_
    refine g_iretI rfl dX1_pitchOf_82 ?_
    exact Fw.ret rfl
  have loop : ∀ f k, k + f = 47 → nd (σ 23) (1000 * len) f k = nd (σ 23) (1000 * len) 47 0 → ∀ i : Int, i = (k : Int) → FW g zX1_pitchOf 0 0 (fun q σ' l' => q = .inl (some (iv (pit (σ 23) len))) ∧ σ' = σ ∧ l' = l) 8 [some (.ref 17), some (iv len), some (iv (1000 * len)), some (iv i), none, none] [] σ l := by
    intro f
    induction f with
    | zero =>
      intro k hk he i hi
      have hk2 : k = 47 := by omega
      subst hi
      refine g_iload3 dX1_pitchOf_8 ?_
      refine g_bipush dX1_pitchOf_9 (by decide) ?_
      refine g_icmp_ge ⟨by omega, by omega⟩ ⟨by omega, by omega⟩ (tgt := 34) dX1_pitchOf_11 rfl (fun h11 => ?_) (fun h11 => absurd h11 (by omega))
      rw [← he] at fin
      exact fin
    | succ f ih =>
      intro k hk he i hi
      subst hi
      have hTk := hT ((k : Int) + 1) (by omega) (by omega)
      refine g_iload3 dX1_pitchOf_8 ?_
      refine g_bipush dX1_pitchOf_9 (by decide) ?_
      refine g_icmp_ge ⟨by omega, by omega⟩ ⟨by omega, by omega⟩ (tgt := 34) dX1_pitchOf_11 rfl (fun h11 => absurd h11 (by omega)) (fun h11 => ?_)
      refine g_aload0 dX1_pitchOf_14 ?_
      refine f_getr (r := 23) rfl (by decide) rfl rfl fl_X1_31 dX1_pitchOf_15 ?_
      refine g_iload3 dX1_pitchOf_18 ?_
      refine g_iconst dX1_pitchOf_19 ?_
      refine g_iadd dX1_pitchOf_20 ?_
      refine f_cS2w (atI rfl (by decide) (by omega) (by omega)) oY_X5_at oT_X5_at lk_X1_57 rfl dX1_pitchOf_21 rfl (Or.inl rfl) ?_
      refine g_iload2 dX1_pitchOf_24 ?_
      refine g_icmp_lt ⟨by omega, by omega⟩ ⟨by omega, by omega⟩ (tgt := 34) dX1_pitchOf_25 rfl (fun h25 => ?_) (fun h25 => ?_)
      · rw [nd, if_neg (by omega)] at he
        rw [← he] at fin
        exact fin
      · refine g_iinc3 dX1_pitchOf_28 rfl (by decide) ?_
        refine g_goto (tgt := 8) dX1_pitchOf_31 rfl ?_
        rw [nd, if_pos (by omega)] at he
        exact ih (k + 1) (by omega) he _ (by push_cast; omega)
  refine g_sipush dX1_pitchOf_0 (by decide) ?_
  refine g_iload1 dX1_pitchOf_3 ?_
  refine g_imul dX1_pitchOf_4 ?_
  refine g_istore2 dX1_pitchOf_5 rfl (by decide) ?_
  refine g_iconst dX1_pitchOf_6 ?_
  refine g_istore3 dX1_pitchOf_7 rfl (by decide) ?_
  exact loop 47 0 rfl rfl _ rfl
end C25
