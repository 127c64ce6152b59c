/-! The model's reader: its smallest steps -/
section C84
variable {g : gT} {σ : sT} {l : Nat → Nat}
theorem byteAt_m {T : Int → Int} {N : Nat} (hT : TX T N) (hln : σ 92 15 = (N : Int)) (htx : σ 105 = T) {p : Nat} (hp : p ≤ 1000) : Fw g zX6_byteAt [.ref 92, iv (p : Int)] σ l (iv (sgn T N p)) := by
  have hN := hT.1
  refine Fn.of [some (.ref 92), some (iv (p : Int))] rfl (by decide) (Nat.le_of_ble_eq_true rfl) rfl ?_
  refine g_iload1 dX6_byteAt_0 ?_
  refine g_aload0 dX6_byteAt_1 ?_
  refine f_geti (J := 15) rfl (by decide) rfl rfl fl_X6_186 dX6_byteAt_2 ?_
  rw [hln]
  refine g_icmp_ge ⟨by omega, by omega⟩ ⟨by omega, by omega⟩ (tgt := 17) dX6_byteAt_5 rfl (fun h5 => ?_) (fun h5 => ?_)
  · refine g_iconst dX6_byteAt_17 ?_
    refine g_iretI rfl dX6_byteAt_18 ?_
    first
      | exact Fw.ret (by rw [sgn_at (by omega)])
      | exact Fw.ret (by unfold sgn; rw [if_neg (by omega)])
  · refine g_aload0 dX6_byteAt_8 ?_
    refine f_getr (r := 105) rfl (by decide) rfl rfl fl_X6_49 dX6_byteAt_9 ?_
    refine g_iload1 dX6_byteAt_12 ?_
    refine f_iald rfl (by decide) ⟨by omega, by show _ < ((400 : Nat) : Int); omega⟩ dX6_byteAt_13 ?_
    rw [htx]
    refine g_goto (tgt := 18) dX6_byteAt_14 rfl ?_
    refine g_iretI rfl dX6_byteAt_18 ?_
    first
      | exact Fw.ret (by rw [sgn_at (by omega)])
      | exact Fw.ret (by unfold sgn; rw [if_neg (by omega)])
theorem isFine_m {e : Int} (h : σ 92 18 = e) (he : R32 e) : Fw g zX6_isFine [.ref 92] σ l (bv (e = 0)) := by
  refine Fn.of [some (.ref 92)] rfl (by decide) (Nat.le_of_ble_eq_true rfl) rfl ?_
  refine g_aload0 dX6_isFine_0 ?_
  refine f_geti (J := 18) rfl (by decide) rfl rfl fl_X6_193 dX6_isFine_1 ?_
  rw [h]
  refine g_if_ne he (tgt := 11) dX6_isFine_4 rfl (fun h4 => ?_) (fun h4 => ?_)
  · refine g_iconst dX6_isFine_11 ?_
    refine g_iretB (Or.inl rfl) rfl dX6_isFine_12 ?_
    first
      | exact Fw.ret1 (by omega)
      | exact Fw.ret0 (by omega)
  · refine g_iconst dX6_isFine_7 ?_
    refine g_goto (tgt := 12) dX6_isFine_8 rfl ?_
    refine g_iretB (Or.inr rfl) rfl dX6_isFine_12 ?_
    first
      | exact Fw.ret1 (by omega)
      | exact Fw.ret0 (by omega)
theorem fails_0 {k pl : Int} (h : σ 92 18 = 0) : FO g zX6_fails [.ref 92, iv k, iv pl] σ l (up (up σ 92 18 k) 92 19 pl) := by
  refine Fn.of [some (.ref 92), some (iv k), some (iv pl)] rfl (by decide) (Nat.le_of_ble_eq_true rfl) rfl ?_
  refine g_aload0 dX6_fails_0 ?_
  refine f_geti (J := 18) rfl (by decide) rfl rfl fl_X6_193 dX6_fails_1 ?_
  rw [h]
  refine g_if_ne ⟨by omega, by omega⟩ (tgt := 17) dX6_fails_4 rfl (fun h4 => absurd h4 (by decide)) (fun h4 => ?_)
  refine g_aload0 dX6_fails_7 ?_
  refine g_iload1 dX6_fails_8 ?_
  refine f_puti (J := 18) rfl (by decide) rfl rfl fl_X6_193 rfl (fun _ _ _ h => by cases h; rfl) dX6_fails_9 ?_
  refine g_aload0 dX6_fails_12 ?_
  refine g_iload2 dX6_fails_13 ?_
  refine f_puti (J := 19) rfl (by decide) rfl rfl fl_X6_196 rfl (fun _ _ _ h => by cases h; rfl) dX6_fails_14 ?_
  refine g_return rfl dX6_fails_17 ?_
  exact FO.ret rfl
theorem fails_1 {k pl e : Int} (h : σ 92 18 = e) (he : R32 e) (h0 : e ≠ 0) : FO g zX6_fails [.ref 92, iv k, iv pl] σ l σ := by
  refine Fn.of [some (.ref 92), some (iv k), some (iv pl)] rfl (by decide) (Nat.le_of_ble_eq_true rfl) rfl ?_
  refine g_aload0 dX6_fails_0 ?_
  refine f_geti (J := 18) rfl (by decide) rfl rfl fl_X6_193 dX6_fails_1 ?_
  rw [h]
  refine g_if_ne he (tgt := 17) dX6_fails_4 rfl (fun h4 => ?_) (fun h4 => absurd h4 h0)
  refine g_return rfl dX6_fails_17 ?_
  exact FO.ret rfl
theorem isLetter_m {c : Int} (hx : R32 c) : Fw g zX6_isLetter [iv c] σ l (bv (isLt c = true)) := by
  refine Fn.of [some (iv c)] rfl (by decide) (Nat.le_of_ble_eq_true rfl) rfl ?_
  refine g_iload0 dX6_isLetter_0 ?_
  refine g_i2l hx dX6_isLetter_1 ?_
  refine g_ldc2 (v := Int64.ofInt (97)) kl_X6_208 dX6_isLetter_2 ?_
  refine g_ldc2 (v := Int64.ofInt (122)) kl_X6_210 dX6_isLetter_5 ?_
  refine f_cS3w (isIn_ok (by omega) (by decide) (by decide)) oY_X6_isIn oT_X6_isIn lk_X6_83 rfl dX6_isLetter_8 rfl (Or.inl rfl) ?_
  refine g_iretP rfl dX6_isLetter_11 ?_
  exact Fw.retV (bv_c (by unfold isLt; rw [decide_eq_true_eq]))
theorem isDigit_m {c : Int} (hx : R32 c) : Fw g zX6_isDigit [iv c] σ l (bv (isDg c = true)) := by
  refine Fn.of [some (iv c)] rfl (by decide) (Nat.le_of_ble_eq_true rfl) rfl ?_
  refine g_iload0 dX6_isDigit_0 ?_
  refine g_i2l hx dX6_isDigit_1 ?_
  refine g_ldc2 (v := Int64.ofInt (48)) kl_X6_212 dX6_isDigit_2 ?_
  refine g_ldc2 (v := Int64.ofInt (57)) kl_X6_214 dX6_isDigit_5 ?_
  refine f_cS3w (isIn_ok (by omega) (by decide) (by decide)) oY_X6_isIn oT_X6_isIn lk_X6_83 rfl dX6_isDigit_8 rfl (Or.inl rfl) ?_
  refine g_iretP rfl dX6_isDigit_11 ?_
  exact Fw.retV (bv_c (by unfold isDg; rw [decide_eq_true_eq]))
theorem looks_m {T : Int → Int} {N : Nat} (hT : TX T N) (hln : σ 92 15 = (N : Int)) (htx : σ 105 = T) {p : Nat} (hat : σ 92 16 = (p : Int)) (hp : p ≤ N)  : FX g zX6_looks [.ref 92] σ l (iv (sgn T N (sk isSp T N p))) (up (up σ 92 16 ((sk isSp T N p) : Int)) 92 17 ((sk isSp T N p) : Int)) := by
  have hN := hT.1
  have hs := sk_le (Q := isSp) (T := T) hp
  refine Fn.of [some (.ref 92)] rfl (by decide) (Nat.le_of_ble_eq_true rfl) rfl ?_
  have loop : ∀ d x : Nat, N - x = d → x ≤ N → sk isSp T N x = (sk isSp T N p) → FW g zX6_looks 0 0 (fun o σ' l' => o = .inl (some (iv (sgn T N (sk isSp T N p)))) ∧ σ' = (up (up σ 92 16 ((sk isSp T N p) : Int)) 92 17 ((sk isSp T N p) : Int)) ∧ l' = l) 0 [some (.ref 92)] [] (up σ 92 16 (x : Int)) l := by
    intro d
    induction d with
    | zero =>
      intro x hd hx he
      have hsx : sgn T N x = -1 := by unfold sgn; rw [if_neg (by omega)]
      refine g_aload0 dX6_looks_0 ?_
      refine g_aload0 dX6_looks_1 ?_
      refine f_geti (J := 16) rfl (by decide) rfl rfl fl_X6_199 dX6_looks_2 ?_
      rw [up_eq]
      refine f_cV1w (byteAt_m hT ((up_ne (fun z => by omega)).trans hln) ((up_n (by decide)).trans htx) (by omega)) rfl (by decide) rfl oY_X6_byteAt oI_X6_byteAt lk_X6_202 rfl dX6_looks_5 rfl (Or.inl rfl) ?_
      refine g_bipush dX6_looks_8 (by decide) ?_
      refine g_icmp_ne ⟨by have := sgn_rng (p := x) hT; omega, by have := sgn_rng (p := x) hT; omega⟩ ⟨by omega, by omega⟩ (tgt := 26) dX6_looks_10 rfl (fun h10 => ?_) (fun h10 => absurd h10 (by omega))
      refine g_aload0 dX6_looks_26 ?_
      refine g_aload0 dX6_looks_27 ?_
      refine f_geti (J := 16) rfl (by decide) rfl rfl fl_X6_199 dX6_looks_28 ?_
      rw [up_eq]
      refine f_puti (J := 17) rfl (by decide) rfl rfl fl_X6_205 rfl (fun _ _ _ h => by cases h; rfl) dX6_looks_31 ?_
      refine g_aload0 dX6_looks_34 ?_
      refine g_aload0 dX6_looks_35 ?_
      refine f_geti (J := 16) rfl (by decide) rfl rfl fl_X6_199 dX6_looks_36 ?_
      rw [up_ne (fun z => by omega), up_eq]
      refine f_cV1w (byteAt_m hT ((up_ne (fun z => by omega)).trans ((up_ne (fun z => by omega)).trans hln)) ((up_n (by decide)).trans ((up_n (by decide)).trans htx)) (by omega)) rfl (by decide) rfl oY_X6_byteAt oI_X6_byteAt lk_X6_202 rfl dX6_looks_39 rfl (Or.inl rfl) ?_
      refine g_iretI rfl dX6_looks_42 ?_
      have ex : x = (sk isSp T N p) := by
        rw [← he, sk_e (by omega)]
      exact FX.ret (by rw [ex]) (by rw [ex])
    | succ d ih =>
      intro x hd hx he
      have hlt : x < N := by omega
      refine g_aload0 dX6_looks_0 ?_
      refine g_aload0 dX6_looks_1 ?_
      refine f_geti (J := 16) rfl (by decide) rfl rfl fl_X6_199 dX6_looks_2 ?_
      rw [up_eq]
      refine f_cV1w (byteAt_m hT ((up_ne (fun z => by omega)).trans hln) ((up_n (by decide)).trans htx) (by omega)) rfl (by decide) rfl oY_X6_byteAt oI_X6_byteAt lk_X6_202 rfl dX6_looks_5 rfl (Or.inl rfl) ?_
      refine g_bipush dX6_looks_8 (by decide) ?_
      refine g_icmp_ne ⟨by have := sgn_rng (p := x) hT; omega, by have := sgn_rng (p := x) hT; omega⟩ ⟨by omega, by omega⟩ (tgt := 26) dX6_looks_10 rfl (fun h10x => ?_) (fun h10x => ?_)
      · have hq := h10x
        refine g_aload0 dX6_looks_26 ?_
        refine g_aload0 dX6_looks_27 ?_
        refine f_geti (J := 16) rfl (by decide) rfl rfl fl_X6_199 dX6_looks_28 ?_
        rw [up_eq]
        refine f_puti (J := 17) rfl (by decide) rfl rfl fl_X6_205 rfl (fun _ _ _ h => by cases h; rfl) dX6_looks_31 ?_
        refine g_aload0 dX6_looks_34 ?_
        refine g_aload0 dX6_looks_35 ?_
        refine f_geti (J := 16) rfl (by decide) rfl rfl fl_X6_199 dX6_looks_36 ?_
        rw [up_ne (fun z => by omega), up_eq]
        refine f_cV1w (byteAt_m hT ((up_ne (fun z => by omega)).trans ((up_ne (fun z => by omega)).trans hln)) ((up_n (by decide)).trans ((up_n (by decide)).trans htx)) (by omega)) rfl (by decide) rfl oY_X6_byteAt oI_X6_byteAt lk_X6_202 rfl dX6_looks_39 rfl (Or.inl rfl) ?_
        refine g_iretI rfl dX6_looks_42 ?_
        have ex : x = (sk isSp T N p) := by
          rw [← he, sk_e (fun z => hq (by rw [sgn_at z.1]; exact of_decide_eq_true z.2))]
        exact FX.ret (by rw [ex]) (by rw [ex])
      · have hq := h10x
        refine g_aload0 dX6_looks_13 ?_
        refine g_dup rfl dX6_looks_14 ?_
        refine f_geti (J := 16) rfl (by decide) rfl rfl fl_X6_199 dX6_looks_15 ?_
        rw [up_eq]
        refine g_iconst dX6_looks_18 ?_
        refine g_iadd dX6_looks_19 ?_
        refine f_puti (J := 16) rfl (by decide) rfl rfl fl_X6_199 rfl (fun _ _ _ h => by cases h; rfl) dX6_looks_20 ?_
        refine g_goto (tgt := 0) dX6_looks_23 rfl ?_
        rw [up_up]
        exact ih (x + 1) (by omega) (by omega) (by rw [← he, ← sk_s (hlt) (by unfold isSp; exact decide_eq_true (by rw [← sgn_at (T := T) (N := N) hlt]; exact hq))])
  have h0 := loop _ p rfl hp rfl
  rw [up_id hat] at h0
  exact h0
theorem word_m {T : Int → Int} {N : Nat} (hT : TX T N) (hln : σ 92 15 = (N : Int)) (htx : σ 105 = T) {p : Nat} (hat : σ 92 16 = (p : Int)) (hp : p ≤ N)  : FO g zX6_word [.ref 92] σ l (up (up σ 92 17 ((sk isSp T N p) : Int)) 92 16 ((sk isLt T N (sk isSp T N p)) : Int)) := by
  have hN := hT.1
  have hs := sk_le (Q := isSp) (T := T) hp
  refine Fn.of [some (.ref 92)] rfl (by decide) (Nat.le_of_ble_eq_true rfl) rfl ?_
  have loop : ∀ d x : Nat, N - x = d → x ≤ N → sk isLt T N x = (sk isLt T N (sk isSp T N p)) → FW g zX6_word 0 0 (fun o σ' l' => o = .inl none ∧ σ' = (up (up σ 92 17 ((sk isSp T N p) : Int)) 92 16 ((sk isLt T N (sk isSp T N p)) : Int)) ∧ l' = l) 5 [some (.ref 92)] [] (up (up σ 92 17 ((sk isSp T N p) : Int)) 92 16 (x : Int)) l := by
    intro d
    induction d with
    | zero =>
      intro x hd hx he
      have hsx : sgn T N x = -1 := by unfold sgn; rw [if_neg (by omega)]
      refine g_aload0 dX6_word_5 ?_
      refine g_aload0 dX6_word_6 ?_
      refine f_geti (J := 16) rfl (by decide) rfl rfl fl_X6_199 dX6_word_7 ?_
      rw [up_eq]
      refine f_cV1w (byteAt_m hT ((up_ne (fun z => by omega)).trans ((up_ne (fun z => by omega)).trans hln)) ((up_n (by decide)).trans ((up_n (by decide)).trans htx)) (by omega)) rfl (by decide) rfl oY_X6_byteAt oI_X6_byteAt lk_X6_202 rfl dX6_word_10 rfl (Or.inl rfl) ?_
      refine f_cS1w (isLetter_m ⟨by have := sgn_rng (p := x) hT; omega, by have := sgn_rng (p := x) hT; omega⟩) oY_X6_isLetter oT_X6_isLetter lk_X6_219 rfl dX6_word_13 rfl (Or.inl rfl) ?_
      refine g_ifeqB (tgt := 32) dX6_word_16 rfl (fun h16 => ?_) (fun h16 => absurd h16 (by rw [hsx]; decide))
      refine g_return rfl dX6_word_32 ?_
      exact FO.ret (by rw [← he, sk_e (Q := isLt) (p := x) (by omega)])
    | succ d ih =>
      intro x hd hx he
      have hlt : x < N := by omega
      refine g_aload0 dX6_word_5 ?_
      refine g_aload0 dX6_word_6 ?_
      refine f_geti (J := 16) rfl (by decide) rfl rfl fl_X6_199 dX6_word_7 ?_
      rw [up_eq]
      refine f_cV1w (byteAt_m hT ((up_ne (fun z => by omega)).trans ((up_ne (fun z => by omega)).trans hln)) ((up_n (by decide)).trans ((up_n (by decide)).trans htx)) (by omega)) rfl (by decide) rfl oY_X6_byteAt oI_X6_byteAt lk_X6_202 rfl dX6_word_10 rfl (Or.inl rfl) ?_
      refine f_cS1w (isLetter_m ⟨by have := sgn_rng (p := x) hT; omega, by have := sgn_rng (p := x) hT; omega⟩) oY_X6_isLetter oT_X6_isLetter lk_X6_219 rfl dX6_word_13 rfl (Or.inl rfl) ?_
      refine g_ifeqB (tgt := 32) dX6_word_16 rfl (fun h16 => ?_) (fun h16 => ?_)
      · refine g_return rfl dX6_word_32 ?_
        exact FO.ret (by rw [← he, sk_e (Q := isLt) (p := x) (fun z => h16 (by rw [sgn_at z.1]; exact z.2))])
      · refine g_aload0 dX6_word_19 ?_
        refine g_dup rfl dX6_word_20 ?_
        refine f_geti (J := 16) rfl (by decide) rfl rfl fl_X6_199 dX6_word_21 ?_
        rw [up_eq]
        refine g_iconst dX6_word_24 ?_
        refine g_iadd dX6_word_25 ?_
        refine f_puti (J := 16) rfl (by decide) rfl rfl fl_X6_199 rfl (fun _ _ _ h => by cases h; rfl) dX6_word_26 ?_
        refine g_goto (tgt := 5) dX6_word_29 rfl ?_
        rw [up_up]
        exact ih (x + 1) (by omega) (by omega) (by rw [← he, ← sk_s hlt (by rw [← sgn_at (T := T) (N := N) hlt]; exact h16)])
  refine g_aload0 dX6_word_0 ?_
  refine f_cV0x (looks_m hT hln htx hat hp) rfl (by decide) rfl oY_X6_looks oI_X6_looks lk_X6_216 rfl dX6_word_1 rfl (Or.inl rfl) ?_
  refine g_pop rfl dX6_word_4 ?_
  have h0 := loop _ (sk isSp T N p) rfl hs.2 rfl
  have em : up (up σ 92 17 ((sk isSp T N p) : Int)) 92 16 ((sk isSp T N p) : Int) = up (up σ 92 16 ((sk isSp T N p) : Int)) 92 17 ((sk isSp T N p) : Int) := by
    funext a b
    unfold up
    by_cases c1 : a = 92 ∧ b = 16
    · rw [if_pos c1, if_neg (fun z => by omega), if_pos c1]
    · rw [if_neg c1, if_neg c1]
  rw [em] at h0
  exact h0
theorem was_m {T : Int → Int} {N : Nat} (hT : TX T N) (htx : σ 105 = T) {q e i : Nat} (hat : σ 92 16 = (e : Int)) (hfr : σ 92 17 = (q : Int)) (hqe : q ≤ e ∧ e ≤ N) (hi : i < 6) : Fw g zX6_was [.ref 92, .ref (KB + (2 + i))] σ l (bv (isWB T q e i = true)) := by
  have hN := hT.1
  have h77 := wdN_le hi
  have hd : isWB T q e i = true ↔ (e - q = wdN i ∧ ∀ k : Nat, k < wdN i → T ((q + k : Nat) : Int) = wd i k) := by unfold isWB; exact decide_eq_true_iff
  refine Fn.of [some (.ref 92), some (.ref (KB + (2 + i))), none, none] rfl (by decide) (Nat.le_of_ble_eq_true rfl) rfl ?_
  have zero : ∀ k : Nat, k ≤ 100 → ¬ isWB T q e i = true → FW g zX6_was 0 0 (fun o σ' l' => o = .inl (some (bv (isWB T q e i = true))) ∧ σ' = σ ∧ l' = l) 24 [some (.ref 92), some (.ref (KB + (2 + i))), some (iv 0), some (iv (k : Int))] [] σ l := by
    intro k hk hno
    refine g_iload3 dX6_was_24 ?_
    refine g_aload1 dX6_was_25 ?_
    refine f_cK0w (stLen_ok hi) hi rfl oY_J0_length_8abf5 oI_J0_length_8abf5 lk_X6_222 rfl dX6_was_26 rfl (Or.inl rfl) ?_
    refine g_icmp_ge ⟨by omega, by omega⟩ ⟨by omega, by omega⟩ (tgt := 67) dX6_was_29 rfl (fun h29 => ?_) (fun h29 => ?_)
    · refine g_iload2 dX6_was_67 ?_
      refine g_iretB (Or.inl rfl) rfl dX6_was_68 ?_
      exact Fw.ret0 hno
    · refine g_iload2 dX6_was_32 ?_
      refine g_if_eq ⟨by decide, by decide⟩ (tgt := 67) dX6_was_33 rfl (fun h33 => ?_) (fun h33 => absurd h33 (by decide))
      refine g_iload2 dX6_was_67 ?_
      refine g_iretB (Or.inl rfl) rfl dX6_was_68 ?_
      exact Fw.ret0 hno
  have loop : e - q = wdN i → ∀ k : Nat, k ≤ wdN i → ∀ x : Int, x = (k : Int) → (∀ j : Nat, j < k → T ((q + j : Nat) : Int) = wd i j) → FW g zX6_was 0 0 (fun o σ' l' => o = .inl (some (bv (isWB T q e i = true))) ∧ σ' = σ ∧ l' = l) 24 [some (.ref 92), some (.ref (KB + (2 + i))), some (iv 1), some (iv x)] [] σ l := by
    intro he
    refine loopUp _ (fun k hk ih x hx hall => ?_)
    subst hx
    refine g_iload3 dX6_was_24 ?_
    refine g_aload1 dX6_was_25 ?_
    refine f_cK0w (stLen_ok hi) hi rfl oY_J0_length_8abf5 oI_J0_length_8abf5 lk_X6_222 rfl dX6_was_26 rfl (Or.inl rfl) ?_
    refine g_icmp_ge ⟨by omega, by omega⟩ ⟨by omega, by omega⟩ (tgt := 67) dX6_was_29 rfl (fun h29 => ?_) (fun h29 => ?_)
    · refine g_iload2 dX6_was_67 ?_
      refine g_iretB (Or.inr rfl) rfl dX6_was_68 ?_
      exact Fw.ret1 (hd.mpr ⟨he, fun j hj => hall j (by omega)⟩)
    · refine g_iload2 dX6_was_32 ?_
      refine g_if_eq ⟨by omega, by omega⟩ (tgt := 67) dX6_was_33 rfl (fun h33 => absurd h33 (by decide)) (fun h33 => ?_)
      refine g_aload0 dX6_was_36 ?_
      refine f_getr (r := 105) rfl (by decide) rfl rfl fl_X6_49 dX6_was_37 ?_
      refine g_aload0 dX6_was_40 ?_
      refine f_geti (J := 17) rfl (by decide) rfl rfl fl_X6_205 dX6_was_41 ?_
      rw [hfr]
      refine g_iload3 dX6_was_44 ?_
      refine g_iadd dX6_was_45 ?_
      refine f_iald rfl (by decide) ⟨by omega, by show _ < ((400 : Nat) : Int); omega⟩ dX6_was_46 ?_
      rw [htx, show (q : Int) + (k : Int) = ((q + k : Nat) : Int) from by push_cast; rfl]
      have hb := hT.2 (q + k) (by omega)
      have hr := wd_rng hi (j := k) (by omega)
      refine g_aload1 dX6_was_47 ?_
      refine g_iload3 dX6_was_48 ?_
      refine f_cK1w (stChar_ok hi (by omega)) hi rfl oY_J0_charAt_5068e oI_J0_charAt_5068e lk_X6_226 rfl dX6_was_49 rfl (Or.inl rfl) ?_
      refine g_icmp_ne ⟨by omega, by omega⟩ ⟨by omega, by omega⟩ (tgt := 59) dX6_was_52 rfl (fun h52 => ?_) (fun h52 => ?_)
      · refine g_iconst dX6_was_59 ?_
        refine g_istore2 dX6_was_60 rfl (by decide) ?_
        refine g_iinc3 dX6_was_61 rfl (by decide) ?_
        refine g_goto (tgt := 24) dX6_was_64 rfl ?_
        first
          | exact zero (k + 1) (by omega) (fun z => h52 ((hd.mp z).2 k (by omega)))
          | exact ih (by omega) _ (by omega) (fun j hj => (Nat.lt_succ_iff_lt_or_eq.mp hj).elim (hall j) (fun ej => by rw [ej]; exact h52))
      · refine g_iconst dX6_was_55 ?_
        refine g_goto (tgt := 60) dX6_was_56 rfl ?_
        refine g_istore2 dX6_was_60 rfl (by decide) ?_
        refine g_iinc3 dX6_was_61 rfl (by decide) ?_
        refine g_goto (tgt := 24) dX6_was_64 rfl ?_
        first
          | exact zero (k + 1) (by omega) (fun z => h52 ((hd.mp z).2 k (by omega)))
          | exact ih (by omega) _ (by omega) (fun j hj => (Nat.lt_succ_iff_lt_or_eq.mp hj).elim (hall j) (fun ej => by rw [ej]; exact h52))
  refine g_aload0 dX6_was_0 ?_
  refine f_geti (J := 16) rfl (by decide) rfl rfl fl_X6_199 dX6_was_1 ?_
  rw [hat]
  refine g_aload0 dX6_was_4 ?_
  refine f_geti (J := 17) rfl (by decide) rfl rfl fl_X6_205 dX6_was_5 ?_
  rw [hfr]
  refine g_isub dX6_was_8 ?_
  refine g_aload1 dX6_was_9 ?_
  refine f_cK0w (stLen_ok hi) hi rfl oY_J0_length_8abf5 oI_J0_length_8abf5 lk_X6_222 rfl dX6_was_10 rfl (Or.inl rfl) ?_
  refine g_icmp_ne ⟨by omega, by omega⟩ ⟨by omega, by omega⟩ (tgt := 20) dX6_was_13 rfl (fun h13 => ?_) (fun h13 => ?_)
  · refine g_iconst dX6_was_20 ?_
    refine g_istore2 dX6_was_21 rfl (by decide) ?_
    refine g_iconst dX6_was_22 ?_
    refine g_istore3 dX6_was_23 rfl (by decide) ?_
    first
      | exact loop (by omega) 0 (Nat.zero_le _) _ rfl (fun j hj => by omega)
      | exact zero 0 (by omega) (fun z => h13 (by have := (hd.mp z).1; omega))
  · refine g_iconst dX6_was_16 ?_
    refine g_goto (tgt := 21) dX6_was_17 rfl ?_
    refine g_istore2 dX6_was_21 rfl (by decide) ?_
    refine g_iconst dX6_was_22 ?_
    refine g_istore3 dX6_was_23 rfl (by decide) ?_
    first
      | exact loop (by omega) 0 (Nat.zero_le _) _ rfl (fun j hj => by omega)
      | exact zero 0 (by omega) (fun z => h13 (by have := (hd.mp z).1; omega))
end C84
