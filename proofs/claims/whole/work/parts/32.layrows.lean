/-! Way.layRows -/
section C32
variable {g : gT} {σ : sT} {l : Nat → Nat}
/-- how many plays each note has -/
def nC (tu fr : Int → Int) (b : Int) (j : Int) : Int := if tu j = -1 then 0 else ctF fr (tu j + b)
theorem frI_bd {c : Int → Int} {B : Int} (n : Nat) (h : ∀ j : Nat, j < n → 0 ≤ c j ∧ c j ≤ B) : 0 ≤ frI c n ∧ frI c n ≤ B * n := by
  induction n with
  | zero => rw [frI_0]; omega
  | succ n ih =>
    have h1 := ih (fun j hj => h j (by omega))
    have h2 := h n (by omega)
    rw [frI_s]
    push_cast
    rw [Int.mul_add]
    omega
theorem layRows_ok {w o n len A : Nat} {b : Int} (hw : isWy w) (hs : isCh o) (hn : σ 1 9 = (n : Int)) (hn40 : n ≤ 40) (ht : ∀ k, 0 ≤ k → k < (n : Int) → -1 ≤ σ 4 k ∧ σ 4 k ≤ 24) (hb : -12 ≤ b ∧ b ≤ 12) (hc : ∀ j : Nat, j < n → 0 ≤ nC (σ 4) (σ (o + 1)) b j ∧ nC (σ 4) (σ (o + 1)) b j ≤ 4374) (hlen : frI (nC (σ 4) (σ (o + 1)) b) n = (len : Int)) (hA : ln l (w + 4) = A) :
    Fu g zX4_layRows (if A < len then 1 else 0) (if A < len then max len (2 * A) else 0) [.ref w, .ref 1, .ref o, iv b] σ l (fun σ' l' => (∀ a, a ≠ w + 3 → a ≠ w + 4 → σ' a = σ a) ∧ (∀ k : Nat, k < n → σ' (w + 3) k = frI (nC (σ 4) (σ (o + 1)) b) k) ∧ ln l' (w + 4) = (if A < len then max len (2 * A) else A) ∧ ∀ a, a ≠ w + 4 → l' a = l a) := by
  have hwo := hw.2.1
  have hso := hs.2.1
  have hA4 : A ≤ 400000 := by rw [← hA]; exact ln_le _ _
  have hlen2 := (frI_bd n hc).2
  refine Fn.of [some (.ref w), some (.ref 1), some (.ref o), some (iv b), none, none] rfl (by decide) (Nat.le_of_ble_eq_true rfl) rfl ?_
  have loop : ∀ k : Nat, k ≤ n → ∀ (i s : Int) (τ : sT), i = (k : Int) → s = frI (nC (σ 4) (σ (o + 1)) b) k → (∀ a, a ≠ w + 3 → τ a = σ a) → (∀ j : Nat, j < k → τ (w + 3) j = frI (nC (σ 4) (σ (o + 1)) b) j) → FW g zX4_layRows (if A < len then 1 else 0) (if A < len then max len (2 * A) else 0) (fun q σ' l' => q = .inl none ∧ (∀ a, a ≠ w + 3 → a ≠ w + 4 → σ' a = σ a) ∧ (∀ k : Nat, k < n → σ' (w + 3) k = frI (nC (σ 4) (σ (o + 1)) b) k) ∧ ln l' (w + 4) = (if A < len then max len (2 * A) else A) ∧ ∀ a, a ≠ w + 4 → l' a = l a) 6 [some (.ref w), some (.ref 1), some (.ref o), some (iv b), some (iv s), some (iv i)] [] τ l := by
    refine loopUp n (fun k hk ih i s τ hi hq hfr hR => ?_)
    subst hi
    have e1 : τ 1 = σ 1 := hfr 1 (by omega)
    have e4 : τ 4 = σ 4 := hfr 4 (by omega)
    have eo : τ (o + 1) = σ (o + 1) := hfr (o + 1) (by omega)
    have hbd := frI_bd k (fun j hj => hc j (by omega))
    refine g_iload5 dX4_layRows_6 ?_
    refine g_aload1 dX4_layRows_8 ?_
    refine f_geti (J := 9) rfl (by decide) rfl rfl fl_X4_35 dX4_layRows_9 ?_
    rw [e1, hn]
    refine g_icmp_ge ⟨by omega, by omega⟩ ⟨by omega, by omega⟩ (tgt := 65) dX4_layRows_12 rfl (fun h12 => ?_) (fun h12 => ?_)
    · have e9 : k = n := by omega
      subst e9
      have hsl : s = (len : Int) := by rw [hq]; exact hlen
      subst hsl
      by_cases hg : A < len
      · rw [if_pos hg, if_pos hg, if_pos hg]
        refine g_iload4 dX4_layRows_65 ?_
        refine g_aload0 dX4_layRows_67 ?_
        refine f_getr (r := w + 4) hw.1 (hw.lt 0 (by decide)) rfl rfl fl_X4_25 dX4_layRows_68 ?_
        refine f_alen (by rw [hw.k4]; decide) (hw.lt 4 (by decide)) dX4_layRows_71 ?_
        rw [hA]
        refine g_icmp_le ⟨by omega, by omega⟩ ⟨by omega, by omega⟩ (tgt := 93) dX4_layRows_72 rfl (fun h72 => absurd h72 (by omega)) (fun h72 => ?_)
        refine g_aload0 dX4_layRows_75 ?_
        refine g_iload4 dX4_layRows_76 ?_
        refine g_iconst dX4_layRows_78 ?_
        refine g_aload0 dX4_layRows_79 ?_
        refine f_getr (r := w + 4) hw.1 (hw.lt 0 (by decide)) rfl rfl fl_X4_25 dX4_layRows_80 ?_
        refine f_alen (by rw [hw.k4]; decide) (hw.lt 4 (by decide)) dX4_layRows_83 ?_
        rw [hA]
        refine g_imul dX4_layRows_84 ?_
        refine g_mmax ⟨by omega, by omega⟩ ⟨by omega, by omega⟩ ma_X4_68 ⟨by decide, Nat.le_of_ble_eq_true rfl⟩ dX4_layRows_85 ?_
        rw [show max (len : Int) (2 * (A : Int)) = ((max len (2 * A) : Nat) : Int) from by omega]
        refine f_newput (r := w + 4) (by decide) hw.1 (hw.lt 0 (by decide)) rfl rfl hw.o4 hw.k4 (hw.lt 4 (by decide)) fl_X4_25 (fun _ _ _ h => by cases h; rfl) rfl ⟨⟨⟨Or.inl (hw.lt 0 (by decide)), hw.ow⟩, (show okV 110 (.ref 1) from okVb_of rfl), ⟨Or.inl (hs.lt 0 (by decide)), hs.ow⟩, trivial, trivial, trivial, trivial⟩, trivial⟩ (by omega) dX4_layRows_88 dX4_layRows_90 (by omega) (by omega) ?_
        refine g_return rfl dX4_layRows_93 ?_
        refine Fu.ret ⟨fun a a3 a4 => ?_, fun j hj => ?_, ?_, fun a ha => ?_⟩
        · funext c
          unfold upz
          rw [if_neg a4]
          rw [hfr a a3]
        · show upz τ (w + 4) (w + 3) j = _
          unfold upz
          rw [if_neg (by omega)]
          exact hR j hj
        · unfold ln upl
          rw [if_neg (by rw [hw.o4]; exact fun q => by cases q), if_pos rfl]
          omega
        · unfold upl
          rw [if_neg ha]
      · rw [if_neg hg, if_neg hg, if_neg hg]
        refine g_iload4 dX4_layRows_65 ?_
        refine g_aload0 dX4_layRows_67 ?_
        refine f_getr (r := w + 4) hw.1 (hw.lt 0 (by decide)) rfl rfl fl_X4_25 dX4_layRows_68 ?_
        refine f_alen (by rw [hw.k4]; decide) (hw.lt 4 (by decide)) dX4_layRows_71 ?_
        rw [hA]
        refine g_icmp_le ⟨by omega, by omega⟩ ⟨by omega, by omega⟩ (tgt := 93) dX4_layRows_72 rfl (fun h72 => ?_) (fun h72 => absurd h72 (by omega))
        refine g_return rfl dX4_layRows_93 ?_
        exact Fu.ret ⟨fun a a3 a4 => hfr a a3, hR, hA, fun a ha => rfl⟩
    · have htk := ht k (by omega) (by omega)
      have u4 : up τ (w + 3) k s 4 = σ 4 := by rw [up_n (by omega), e4]
      have uo : up τ (w + 3) k s (o + 1) = σ (o + 1) := by rw [up_n (by omega), eo]
      refine g_aload0 dX4_layRows_15 ?_
      refine f_getr (r := w + 3) hw.1 (hw.lt 0 (by decide)) rfl rfl fl_X4_22 dX4_layRows_16 ?_
      refine g_iload5 dX4_layRows_19 ?_
      refine g_iload4 dX4_layRows_21 ?_
      refine f_cS3d (putI hw.k3 (hw.lt 3 (by decide)) (by omega) (by rw [hw.n3]; omega)) oY_X5_put oT_X5_put lk_X4_51 rfl dX4_layRows_23 rfl (Or.inl rfl) ?_
      refine g_iload4 dX4_layRows_26 ?_
      refine g_aload1 dX4_layRows_28 ?_
      refine g_iload5 dX4_layRows_29 ?_
      refine f_cV1w (isRest_ok isSt1 ⟨by omega, by omega⟩ ⟨by show -2147483648 ≤ up τ (w + 3) k s 4 k; rw [u4]; omega, by show up τ (w + 3) k s 4 k ≤ 2147483647; rw [u4]; omega⟩) rfl (by decide) rfl oY_X3_isRest oI_X3_isRest lk_X4_40 rfl dX4_layRows_31 rfl (Or.inl rfl) ?_
      rw [show bv (up τ (w + 3) k s (1 + 3) k = -1) = bv (σ 4 k = -1) from by show bv (up τ (w + 3) k s 4 k = -1) = _; rw [u4]]
      refine g_ifeqB (tgt := 41) dX4_layRows_34 rfl (fun h34 => ?_) (fun h34 => ?_)
      · refine g_aload2 dX4_layRows_41 ?_
        refine g_aload1 dX4_layRows_42 ?_
        refine f_getr (r := 4) rfl (by decide) rfl rfl fl_X4_55 dX4_layRows_43 ?_
        refine g_iload5 dX4_layRows_46 ?_
        refine f_cS2w (atI rfl (by decide) (by omega) (by show (k : Int) < (40 : Nat); omega)) oY_X5_at oT_X5_at lk_X4_58 rfl dX4_layRows_48 rfl (Or.inl rfl) ?_
        rw [u4]
        refine g_iload3 dX4_layRows_51 ?_
        refine g_iadd dX4_layRows_52 ?_
        refine f_cV1w (countOf_ok hs ⟨by omega, by omega⟩) hs.1 (hs.lt 0 (by decide)) rfl oY_X0_countOf oI_X0_countOf lk_X4_62 rfl dX4_layRows_53 rfl (Or.inl rfl) ?_
        rw [uo]
        refine g_iadd dX4_layRows_56 ?_
        refine g_istore4 dX4_layRows_57 rfl (by decide) ?_
        refine g_iinc5 dX4_layRows_59 rfl (by decide) ?_
        refine g_goto (tgt := 6) dX4_layRows_62 rfl ?_
        refine ih (by omega) _ _ _ (by push_cast; omega) (by rw [hq, frI_s, nC]; first | rw [if_pos h34] | rw [if_neg h34]) (fun a ha => by rw [up_n ha]; exact hfr a ha) (fun j hj => ?_)
        by_cases e9 : j = k
        · subst e9
          rw [up_eq, hq]
        · rw [up_ne (by omega)]
          exact hR j (by omega)
      · refine g_iconst dX4_layRows_37 ?_
        refine g_goto (tgt := 56) dX4_layRows_38 rfl ?_
        refine g_iadd dX4_layRows_56 ?_
        refine g_istore4 dX4_layRows_57 rfl (by decide) ?_
        refine g_iinc5 dX4_layRows_59 rfl (by decide) ?_
        refine g_goto (tgt := 6) dX4_layRows_62 rfl ?_
        refine ih (by omega) _ _ _ (by push_cast; omega) (by rw [hq, frI_s, nC]; first | rw [if_pos h34] | rw [if_neg h34]) (fun a ha => by rw [up_n ha]; exact hfr a ha) (fun j hj => ?_)
        by_cases e9 : j = k
        · subst e9
          rw [up_eq, hq]
        · rw [up_ne (by omega)]
          exact hR j (by omega)
  refine g_iconst dX4_layRows_0 ?_
  refine g_istore4 dX4_layRows_1 rfl (by decide) ?_
  refine g_iconst dX4_layRows_3 ?_
  refine g_istore5 dX4_layRows_4 rfl (by decide) ?_
  exact loop 0 (Nat.zero_le _) _ _ _ rfl rfl (fun a ha => rfl) (fun j hj => by omega)
end C32
