/-! The model: output, undo, snapshots -/
section C83
variable {g : gT} {σ : sT} {l : Nat → Nat}
/-- what the model has written -/
def Om (σ τ : sT) (L : List Int) : Prop := (∀ a, a ≠ 92 → a ≠ 107 → τ a = σ a) ∧ (∀ j, j ≠ 25 → j ≠ 6 → τ 92 j = σ 92 j) ∧ τ 92 25 = (L.length : Int) ∧ ∀ (j : Nat) (x : Int), L[j]? = some x → τ 107 j = x
theorem Om.snoc {τ : sT} {L : List Int} {x : Int} (h : Om σ τ L) : Om σ (up (up τ 107 (L.length : Int) x) 92 25 ((L.length : Int) + 1)) (L ++ [x]) := by
  refine ⟨fun a a0 a16 => by rw [up_n a0, up_n a16, h.1 a a0 a16], fun j hj h6 => by rw [up_ne (fun z => hj z.2), up_n (by decide), h.2.1 j hj h6], by rw [up_eq, List.length_append]; push_cast; rfl, fun j y hy => ?_⟩
  rw [up_n (by decide)]
  rw [List.getElem?_append] at hy
  split at hy
  · next hj => rw [up_ne (fun z => by omega)]; exact h.2.2.2 j y hy
  · next hj =>
    by_cases e : j = L.length
    · subst e
      rw [Nat.sub_self] at hy
      cases hy
      rw [up_eq]
    · exfalso
      obtain ⟨d, hd⟩ : ∃ d, j - L.length = d + 1 := ⟨j - L.length - 1, by omega⟩
      rw [hd] at hy
      cases hy
theorem writes_m {w x : Int} (h : σ 92 25 = w) (hw : 0 ≤ w ∧ w < 200) : FO g zX6_writes [.ref 92, iv x] σ l (up (up σ 107 w x) 92 25 (w + 1)) := by
  refine Fn.of [some (.ref 92), some (iv x)] rfl (by decide) (Nat.le_of_ble_eq_true rfl) rfl ?_
  refine g_aload0 dX6_writes_0 ?_
  refine f_getr (r := 107) rfl (by decide) rfl rfl fl_X6_59 dX6_writes_1 ?_
  refine g_aload0 dX6_writes_4 ?_
  refine f_geti (J := 25) rfl (by decide) rfl rfl fl_X6_382 dX6_writes_5 ?_
  rw [h]
  refine g_iload1 dX6_writes_8 ?_
  refine f_iast rfl (by decide) ⟨by omega, by show _ < ((200 : Nat) : Int); omega⟩ dX6_writes_9 ?_
  refine g_aload0 dX6_writes_10 ?_
  refine g_dup rfl dX6_writes_11 ?_
  refine f_geti (J := 25) rfl (by decide) rfl rfl fl_X6_382 dX6_writes_12 ?_
  rw [up_n (by decide), h]
  refine g_iconst dX6_writes_15 ?_
  refine g_iadd dX6_writes_16 ?_
  refine f_puti (J := 25) rfl (by decide) rfl rfl fl_X6_382 rfl (fun _ _ _ h => by cases h; rfl) dX6_writes_17 ?_
  refine g_return rfl dX6_writes_20 ?_
  exact FO.ret rfl
theorem writes_w {τ : sT} {L : List Int} {x : Int} (h : Om σ τ L) (hl : L.length < 120) (he : τ 92 6 = 0) : Fu g zX6_writes 0 0 [.ref 92, iv x] τ l (fun τ' l' => l' = l ∧ Om σ τ' (L ++ [x]) ∧ τ' 92 6 = 0) :=
  Fn.mono (writes_m (g := g) (l := l) (x := x) h.2.2.1 ⟨by omega, by omega⟩) (fun o τ' l' ⟨a, b, d⟩ => ⟨a, d, by rw [b]; exact h.snoc, by rw [b, up_ne (fun z => by omega), up_n (by decide)]; exact he⟩)
theorem writePlay_q {B : Int} {s : Int → Int} (ho : SOK B s) (hs : σ 93 = s) {p : Int} (h : 0 ≤ p ∧ p < (2 * ((3 ^ wH s : Nat) : Int))) : Fn g zX6_writePlay 0 0 [.ref 92, iv p] σ l (fun o τ l' => o = .inl (some (iv ((wpO s p).length : Int))) ∧ l' = l ∧ Om σ τ (wpO s p) ∧ τ 92 6 = 0) := by
  have hs0 : up σ 92 6 0 93 = s := (up_n (by decide)).trans hs
  have hM0 : Md σ (up σ 92 6 0) := md_th (Md.refl σ)
  have he0 : up σ 92 6 0 92 6 = 0 := up_eq
  have hp3 := p3_le ho.h7
  have hp0 := p3_pos (wH s)
  have hn40 := ho.n40
  have hnI := ho.nI
  have hH7 := ho.h7
  have hHI := ho.hI
  have hb4 := ho.halves
  have hb5 := ho.crosses
  refine Fn.of [some (.ref 92), some (iv p), none, none] rfl (by decide) (Nat.le_of_ble_eq_true rfl) rfl ?_
  have loop : ∀ q : Nat, q ≤ wH s → ∀ (i : Int) (u3 : Option Value) (τ : sT) (l' : Nat → Nat), i = (q : Int) → l' = l → Om σ τ (wpL s p q) → τ 92 6 = 0 → FW g zX6_writePlay 0 0 (fun o τ l' => o = .inl (some (iv ((wpO s p).length : Int))) ∧ l' = l ∧ Om σ τ (wpO s p) ∧ τ 92 6 = 0) 17 [some (.ref 92), some (iv p), some (iv i), u3] [] τ l' := by
    refine loopUp _ (fun q hq2 ih i u3 τ l' hi hl w hq6 => ?_)
    subst hi
    have hwl := wpL_len s p q
    have hsτ : τ 93 = s := (w.1 93 (by decide) (by decide)).trans hs
    have hd := dgt_r p q
    have hws : wpL s p (q + 1) = wpL s p q ++ [wpB s p q] := rfl
    refine g_iload2 dX6_writePlay_17 ?_
    refine g_aload0 dX6_writePlay_18 ?_
    refine f_getr (r := 93) rfl (by decide) rfl rfl fl_X6_7 dX6_writePlay_19 ?_
    try rw [hsτ]
    refine g_iconst dX6_writePlay_22 ?_
    refine f_iald rfl (by decide) ⟨by omega, by show _ < ((67 : Nat) : Int); omega⟩ dX6_writePlay_23 ?_
    try rw [hsτ]
    rw [hHI]
    refine g_icmp_ge ⟨by omega, by omega⟩ ⟨by omega, by omega⟩ (tgt := 65) dX6_writePlay_24 rfl (fun h24 => ?_) (fun h24 => ?_)
    · have e9 : q = wH s := by omega
      subst e9
      refine g_aload0 dX6_writePlay_65 ?_
      refine g_iload1 dX6_writePlay_66 ?_
      refine f_cV1w (isStrong_ok ho hsτ (by omega)) rfl (by decide) rfl oY_X6_isStrong oI_X6_isStrong lk_X6_120 rfl dX6_writePlay_67 rfl (Or.inl rfl) ?_
      refine g_ifeqB (tgt := 79) dX6_writePlay_70 rfl (fun h70 => ?_) (fun h70 => ?_)
      · refine g_aload0 dX6_writePlay_79 ?_
        refine f_geti (J := 25) rfl (by decide) rfl rfl fl_X6_382 dX6_writePlay_80 ?_
        try rw [hsτ]
        refine g_iretI rfl dX6_writePlay_83 ?_
        first
          | (have eL : wpO s p = wpL s p (wH s) := by unfold wpO; rw [if_pos (by omega)]
             refine fn_ret ⟨?_, hl, by rw [eL]; exact w, hq6⟩
             rw [w.2.2.1, eL])
          | (have eL : wpO s p = wpL s p (wH s) ++ [43] := by unfold wpO; rw [if_neg (by omega)]
             refine fn_ret ⟨?_, hl, by rw [eL]; exact h76.2.1, h76.2.2⟩
             rw [h76.2.1.2.2.1, eL])
      · refine g_aload0 dX6_writePlay_73 ?_
        refine g_bipush dX6_writePlay_74 (by decide) ?_
        refine f_cV1m (writes_w w (by omega) hq6) rfl (by decide) rfl oY_X6_writes oI_X6_writes lk_X6_385 rfl dX6_writePlay_76 (by omega) (by omega) rfl (Or.inl rfl) (fun σ76 l76 h76 => ?_)
        have el76 := h76.1
        subst el76
        refine g_aload0 dX6_writePlay_79 ?_
        refine f_geti (J := 25) rfl (by decide) rfl rfl fl_X6_382 dX6_writePlay_80 ?_
        try rw [hsτ]
        refine g_iretI rfl dX6_writePlay_83 ?_
        first
          | (have eL : wpO s p = wpL s p (wH s) := by unfold wpO; rw [if_pos (by omega)]
             refine fn_ret ⟨?_, hl, by rw [eL]; exact w, hq6⟩
             rw [w.2.2.1, eL])
          | (have eL : wpO s p = wpL s p (wH s) ++ [43] := by unfold wpO; rw [if_neg (by omega)]
             refine fn_ret ⟨?_, hl, by rw [eL]; exact h76.2.1, h76.2.2⟩
             rw [h76.2.1.2.2.1, eL])
    · refine g_aload0 dX6_writePlay_27 ?_
      refine g_iload1 dX6_writePlay_28 ?_
      refine g_iload2 dX6_writePlay_29 ?_
      refine f_cV2w (cover_m (k := q) ⟨by omega, by omega⟩ (by omega)) rfl (by decide) rfl oY_X6_coverOf oI_X6_coverOf lk_X6_90 rfl dX6_writePlay_30 rfl (Or.inl rfl) ?_
      refine g_istore3 dX6_writePlay_33 rfl (by decide) ?_
      refine g_aload0 dX6_writePlay_34 ?_
      refine g_iload3 dX6_writePlay_35 ?_
      refine g_if_ne ⟨by omega, by omega⟩ (tgt := 44) dX6_writePlay_36 rfl (fun h36 => ?_) (fun h36 => ?_)
      · refine g_iload3 dX6_writePlay_44 ?_
        refine g_iconst dX6_writePlay_45 ?_
        refine g_icmp_ne ⟨by omega, by omega⟩ ⟨by omega, by omega⟩ (tgt := 54) dX6_writePlay_46 rfl (fun h46 => ?_) (fun h46 => ?_)
        · refine g_bipush dX6_writePlay_54 (by decide) ?_
          refine f_cV1m (writes_w w (by omega) hq6) rfl (by decide) rfl oY_X6_writes oI_X6_writes lk_X6_385 rfl dX6_writePlay_56 (by omega) (by omega) rfl (Or.inl rfl) (fun σ56 l56 h56 => ?_)
          have el56 := h56.1
          subst el56
          refine g_iinc2 dX6_writePlay_59 rfl (by decide) ?_
          refine g_goto (tgt := 17) dX6_writePlay_62 rfl ?_
          exact ih (by omega) _ _ _ _ (by omega) hl (by
            have e := h56.2.1
            rw [hws]
            unfold wpB
            first
              | (rw [if_pos (by omega)]; exact e)
              | (rw [if_neg (by omega), if_pos (by omega)]; exact e)
              | (rw [if_neg (by omega), if_neg (by omega)]; exact e)) h56.2.2
        · refine g_bipush dX6_writePlay_49 (by decide) ?_
          refine g_goto (tgt := 56) dX6_writePlay_51 rfl ?_
          refine f_cV1m (writes_w w (by omega) hq6) rfl (by decide) rfl oY_X6_writes oI_X6_writes lk_X6_385 rfl dX6_writePlay_56 (by omega) (by omega) rfl (Or.inl rfl) (fun σ56 l56 h56 => ?_)
          have el56 := h56.1
          subst el56
          refine g_iinc2 dX6_writePlay_59 rfl (by decide) ?_
          refine g_goto (tgt := 17) dX6_writePlay_62 rfl ?_
          exact ih (by omega) _ _ _ _ (by omega) hl (by
            have e := h56.2.1
            rw [hws]
            unfold wpB
            first
              | (rw [if_pos (by omega)]; exact e)
              | (rw [if_neg (by omega), if_pos (by omega)]; exact e)
              | (rw [if_neg (by omega), if_neg (by omega)]; exact e)) h56.2.2
      · refine g_bipush dX6_writePlay_39 (by decide) ?_
        refine g_goto (tgt := 56) dX6_writePlay_41 rfl ?_
        refine f_cV1m (writes_w w (by omega) hq6) rfl (by decide) rfl oY_X6_writes oI_X6_writes lk_X6_385 rfl dX6_writePlay_56 (by omega) (by omega) rfl (Or.inl rfl) (fun σ56 l56 h56 => ?_)
        have el56 := h56.1
        subst el56
        refine g_iinc2 dX6_writePlay_59 rfl (by decide) ?_
        refine g_goto (tgt := 17) dX6_writePlay_62 rfl ?_
        exact ih (by omega) _ _ _ _ (by omega) hl (by
          have e := h56.2.1
          rw [hws]
          unfold wpB
          first
            | (rw [if_pos (by omega)]; exact e)
            | (rw [if_neg (by omega), if_pos (by omega)]; exact e)
            | (rw [if_neg (by omega), if_neg (by omega)]; exact e)) h56.2.2
  refine g_aload0 dX6_writePlay_0 ?_
  refine g_iload1 dX6_writePlay_1 ?_
  refine f_cV1x (mayPlay_y ho hs (by omega) h) rfl (by decide) rfl oY_X6_mayPlay oI_X6_mayPlay lk_X6_300 rfl dX6_writePlay_2 rfl (Or.inl rfl) ?_
  refine g_if_ne ⟨by decide, by decide⟩ (tgt := 10) dX6_writePlay_5 rfl (fun h5 => ?_) (fun h5 => absurd h5 (by decide))
  refine g_aload0 dX6_writePlay_10 ?_
  refine g_iconst dX6_writePlay_11 ?_
  refine f_puti (J := 25) rfl (by decide) rfl rfl fl_X6_382 rfl (fun _ _ _ h => by cases h; rfl) dX6_writePlay_12 ?_
  refine g_iconst dX6_writePlay_15 ?_
  refine g_istore2 dX6_writePlay_16 rfl (by decide) ?_
  exact loop 0 (Nat.zero_le _) _ _ _ _ rfl rfl ⟨fun a a0 a1 => by rw [up_n a0, up_n a0], fun j hj h6 => by rw [up_ne (fun z => hj z.2), up_ne (fun z => h6 z.2)], by rw [up_eq]; rfl, fun j x hx => by cases hx⟩ (by rw [up_ne (fun z => by omega), up_eq])
theorem writePlay_r {B : Int} {s : Int → Int} (ho : SOK B s) (hs : σ 93 = s) {p : Int} (hx : R32 p) (h : ¬ (0 ≤ p ∧ p < (2 * ((3 ^ wH s : Nat) : Int)))) : Fo g zX6_writePlay [.ref 92, iv p] σ l (iv 0) 1 := by
  have hs0 : up σ 92 6 0 93 = s := (up_n (by decide)).trans hs
  have hM0 : Md σ (up σ 92 6 0) := md_th (Md.refl σ)
  have he0 : up σ 92 6 0 92 6 = 0 := up_eq
  have hp3 := p3_le ho.h7
  have hp0 := p3_pos (wH s)
  have hn40 := ho.n40
  have hnI := ho.nI
  have hH7 := ho.h7
  have hHI := ho.hI
  have hb4 := ho.halves
  have hb5 := ho.crosses
  refine Fn.of [some (.ref 92), some (iv p), none, none] rfl (by decide) (Nat.le_of_ble_eq_true rfl) rfl ?_
  refine g_aload0 dX6_writePlay_0 ?_
  refine g_iload1 dX6_writePlay_1 ?_
  refine f_cV1x (mayPlay_n ho hs hx h) rfl (by decide) rfl oY_X6_mayPlay oI_X6_mayPlay lk_X6_300 rfl dX6_writePlay_2 rfl (Or.inl rfl) ?_
  refine g_if_ne ⟨by decide, by decide⟩ (tgt := 10) dX6_writePlay_5 rfl (fun h5 => absurd h5 (by decide)) (fun h5 => ?_)
  refine g_iconst dX6_writePlay_8 ?_
  refine g_iretI rfl dX6_writePlay_9 ?_
  exact Fo.ret rfl (md_th (Md.refl σ)) up_eq
theorem writesTone_m {τ : sT} {L : List Int} {t : Int} (w : Om σ τ L) (hl : L.length < 118) (hq6 : τ 92 6 = 0) (ht : -1 ≤ t ∧ t ≤ 24) : Fu g zX6_writesTone 0 0 [.ref 92, iv t] τ l (fun τ' l' => l' = l ∧ Om σ τ' (L ++ wtN t) ∧ τ' 92 6 = 0) := by
  refine Fn.of [some (.ref 92), some (iv t)] rfl (by decide) (Nat.le_of_ble_eq_true rfl) rfl ?_
  have hlen1 : ∀ x : Int, (L ++ [x]).length = L.length + 1 := fun x => by rw [List.length_append]; rfl
  by_cases c1 : t = -1
  · have eL : wtN t = [114] := by unfold wtN; rw [if_pos c1]
    rw [eL]
    refine g_iload1 dX6_writesTone_0 ?_
    refine g_iconst dX6_writesTone_1 ?_
    refine g_icmp_ne ⟨by omega, by omega⟩ ⟨by omega, by omega⟩ (tgt := 12) dX6_writesTone_2 rfl (fun h2 => absurd h2 (by omega)) (fun h2 => ?_)
    refine g_aload0 dX6_writesTone_5 ?_
    refine g_bipush dX6_writesTone_6 (by decide) ?_
    refine f_cV1m (writes_w w (by omega) hq6) rfl (by decide) rfl oY_X6_writes oI_X6_writes lk_X6_385 rfl dX6_writesTone_8 (by omega) (by omega) rfl (Or.inl rfl) (fun σ8 l8 h8 => ?_)
    have el8 := h8.1
    subst el8
    refine g_return rfl dX6_writesTone_11 ?_
    exact Fu.ret ⟨rfl, h8.2.1, h8.2.2⟩
  · by_cases c2 : t < 10
    · have eL : wtN t = [48 + t % 10] := by unfold wtN; rw [if_neg c1, if_pos c2]
      rw [eL]
      refine g_iload1 dX6_writesTone_0 ?_
      refine g_iconst dX6_writesTone_1 ?_
      refine g_icmp_ne ⟨by omega, by omega⟩ ⟨by omega, by omega⟩ (tgt := 12) dX6_writesTone_2 rfl (fun h2 => ?_) (fun h2 => absurd h2 (by omega))
      refine g_iload1 dX6_writesTone_12 ?_
      refine g_bipush dX6_writesTone_13 (by decide) ?_
      refine g_icmp_le ⟨by omega, by omega⟩ ⟨by omega, by omega⟩ (tgt := 29) dX6_writesTone_15 rfl (fun h15 => ?_) (fun h15 => absurd h15 (by omega))
      refine g_aload0 dX6_writesTone_29 ?_
      refine g_bipush dX6_writesTone_30 (by decide) ?_
      refine g_iload1 dX6_writesTone_32 ?_
      refine g_bipush dX6_writesTone_33 (by decide) ?_
      refine g_irem ⟨by omega, by omega⟩ ⟨by decide, by decide⟩ dX6_writesTone_35 ?_
      refine g_iadd dX6_writesTone_36 ?_
      refine f_cV1m (writes_w w (by omega) hq6) rfl (by decide) rfl oY_X6_writes oI_X6_writes lk_X6_385 rfl dX6_writesTone_37 (by omega) (by omega) rfl (Or.inl rfl) (fun σ37 l37 h37 => ?_)
      have el37 := h37.1
      subst el37
      refine g_return rfl dX6_writesTone_40 ?_
      exact Fu.ret ⟨rfl, h37.2.1, h37.2.2⟩
    · have eL : L ++ wtN t = (L ++ [48 + t / 10]) ++ [48 + t % 10] := by
        unfold wtN
        rw [if_neg c1, if_neg c2, List.append_assoc]
        rfl
      rw [eL]
      refine g_iload1 dX6_writesTone_0 ?_
      refine g_iconst dX6_writesTone_1 ?_
      refine g_icmp_ne ⟨by omega, by omega⟩ ⟨by omega, by omega⟩ (tgt := 12) dX6_writesTone_2 rfl (fun h2 => ?_) (fun h2 => absurd h2 (by omega))
      refine g_iload1 dX6_writesTone_12 ?_
      refine g_bipush dX6_writesTone_13 (by decide) ?_
      refine g_icmp_le ⟨by omega, by omega⟩ ⟨by omega, by omega⟩ (tgt := 29) dX6_writesTone_15 rfl (fun h15 => absurd h15 (by omega)) (fun h15 => ?_)
      refine g_aload0 dX6_writesTone_18 ?_
      refine g_bipush dX6_writesTone_19 (by decide) ?_
      refine g_iload1 dX6_writesTone_21 ?_
      refine g_bipush dX6_writesTone_22 (by decide) ?_
      refine g_idiv ⟨by omega, by omega⟩ ⟨by decide, by decide⟩ dX6_writesTone_24 ?_
      refine g_iadd dX6_writesTone_25 ?_
      refine f_cV1m (writes_w w (by omega) hq6) rfl (by decide) rfl oY_X6_writes oI_X6_writes lk_X6_385 rfl dX6_writesTone_26 (by omega) (by omega) rfl (Or.inl rfl) (fun σ26 l26 h26 => ?_)
      have el26 := h26.1
      subst el26
      have hl2 := hlen1 (48 + t / 10)
      refine g_aload0 dX6_writesTone_29 ?_
      refine g_bipush dX6_writesTone_30 (by decide) ?_
      refine g_iload1 dX6_writesTone_32 ?_
      refine g_bipush dX6_writesTone_33 (by decide) ?_
      refine g_irem ⟨by omega, by omega⟩ ⟨by decide, by decide⟩ dX6_writesTone_35 ?_
      refine g_iadd dX6_writesTone_36 ?_
      refine f_cV1m (writes_w h26.2.1 (by omega) h26.2.2) rfl (by decide) rfl oY_X6_writes oI_X6_writes lk_X6_385 rfl dX6_writesTone_37 (by omega) (by omega) rfl (Or.inl rfl) (fun σ37 l37 h37 => ?_)
      have el37 := h37.1
      subst el37
      refine g_return rfl dX6_writesTone_40 ?_
      exact Fu.ret ⟨rfl, h37.2.1, h37.2.2⟩
theorem writeTune_q {B : Int} {s : Int → Int} (ho : SOK B s) (hs : σ 93 = s) : Fn g zX6_writeTune 0 0 [.ref 92] σ l (fun o τ l' => o = .inl (some (iv ((wtL s (wN s)).length : Int))) ∧ l' = l ∧ Om σ τ (wtL s (wN s)) ∧ τ 92 6 = 0) := by
  have hnI := ho.nI
  have hn40 := ho.n40
  refine Fn.of [some (.ref 92), none] rfl (by decide) (Nat.le_of_ble_eq_true rfl) rfl ?_
  have loop : ∀ q : Nat, q ≤ wN s → ∀ (i : Int) (τ : sT) (l' : Nat → Nat), i = (q : Int) → l' = l → Om σ τ (wtL s q) → τ 92 6 = 0 → FW g zX6_writeTune 0 0 (fun o τ l' => o = .inl (some (iv ((wtL s (wN s)).length : Int))) ∧ l' = l ∧ Om σ τ (wtL s (wN s)) ∧ τ 92 6 = 0) 12 [some (.ref 92), some (iv i)] [] τ l' := by
    refine loopUp _ (fun q hq2 ih i τ l' hi hl w hq6 => ?_)
    subst hi
    have hwl := wtL_len s q
    have hwl2 : (wtL s q).length ≤ 3 * q := by omega
    have hwl3 : q ≠ 0 → (wtL s q).length + 1 ≤ 3 * q := fun z => by rw [if_neg z] at hwl; exact hwl
    have hsτ : τ 93 = s := (w.1 93 (by decide) (by decide)).trans hs
    have hws : wtL s (q + 1) = wtL s q ++ ((if q = 0 then [] else [32]) ++ wtN (wTu s q)) := rfl
    have htr : q < wN s → -1 ≤ wTu s (q : Int) ∧ wTu s (q : Int) ≤ 24 := fun hq => ho.tune _ (by omega) (by omega)
    have hlen1 : (wtL s q ++ [32]).length = (wtL s q).length + 1 := by rw [List.length_append]; rfl
    refine g_iload1 dX6_writeTune_12 ?_
    refine g_aload0 dX6_writeTune_13 ?_
    refine f_getr (r := 93) rfl (by decide) rfl rfl fl_X6_7 dX6_writeTune_14 ?_
    try rw [hsτ]
    refine g_bipush dX6_writeTune_17 (by decide) ?_
    refine f_iald rfl (by decide) ⟨by omega, by show _ < ((67 : Nat) : Int); omega⟩ dX6_writeTune_19 ?_
    try rw [hsτ]
    refine g_icmp_ge ⟨by omega, by omega⟩ ⟨by omega, by omega⟩ (tgt := 48) dX6_writeTune_20 rfl (fun h20 => ?_) (fun h20 => ?_)
    · refine g_aload0 dX6_writeTune_48 ?_
      refine f_geti (J := 25) rfl (by decide) rfl rfl fl_X6_382 dX6_writeTune_49 ?_
      try rw [hsτ]
      refine g_iretI rfl dX6_writeTune_52 ?_
      have e9 : q = wN s := by omega
      subst e9
      exact fn_ret ⟨by rw [w.2.2.1], hl, w, hq6⟩
    · refine g_iload1 dX6_writeTune_23 ?_
      refine g_if_le ⟨by omega, by omega⟩ (tgt := 33) dX6_writeTune_24 rfl (fun h24 => ?_) (fun h24 => ?_)
      · refine g_aload0 dX6_writeTune_33 ?_
        refine g_aload0 dX6_writeTune_34 ?_
        refine g_iload1 dX6_writeTune_35 ?_
        refine f_cV1w (toneAt_m (by first | exact hs30 | exact hsτ) (k := q) (by omega)) rfl (by decide) rfl oY_X6_toneAt oI_X6_toneAt lk_X6_143 rfl dX6_writeTune_36 rfl (Or.inl rfl) ?_
        refine f_cV1m (writesTone_m (by first | exact h30.2.1 | exact w) (by omega) (by first | exact h30.2.2 | exact hq6) (htr (by omega))) rfl (by decide) rfl oY_X6_writesTone oI_X6_writesTone lk_X6_388 rfl dX6_writeTune_39 (by omega) (by omega) rfl (Or.inl rfl) (fun σ39 l39 h39 => ?_)
        have el39 := h39.1
        subst el39
        refine g_iinc1 dX6_writeTune_42 rfl (by decide) ?_
        refine g_goto (tgt := 12) dX6_writeTune_45 rfl ?_
        first
          | (have y : q ≠ 0 := by omega
             exact ih (by omega) _ _ _ (by omega) hl (by rw [hws, if_neg y, ← List.append_assoc]; exact h39.2.1) h39.2.2)
          | (have y : q = 0 := by omega
             exact ih (by omega) _ _ _ (by omega) hl (by rw [hws, if_pos y, List.nil_append]; exact h39.2.1) h39.2.2)
      · refine g_aload0 dX6_writeTune_27 ?_
        refine g_bipush dX6_writeTune_28 (by decide) ?_
        refine f_cV1m (writes_w w (by omega) hq6) rfl (by decide) rfl oY_X6_writes oI_X6_writes lk_X6_385 rfl dX6_writeTune_30 (by omega) (by omega) rfl (Or.inl rfl) (fun σ30 l30 h30 => ?_)
        have el30 := h30.1
        subst el30
        have hs30 : σ30 93 = s := (h30.2.1.1 93 (by decide) (by decide)).trans hs
        refine g_aload0 dX6_writeTune_33 ?_
        refine g_aload0 dX6_writeTune_34 ?_
        refine g_iload1 dX6_writeTune_35 ?_
        refine f_cV1w (toneAt_m (by first | exact hs30 | exact hsτ) (k := q) (by omega)) rfl (by decide) rfl oY_X6_toneAt oI_X6_toneAt lk_X6_143 rfl dX6_writeTune_36 rfl (Or.inl rfl) ?_
        refine f_cV1m (writesTone_m (by first | exact h30.2.1 | exact w) (by omega) (by first | exact h30.2.2 | exact hq6) (htr (by omega))) rfl (by decide) rfl oY_X6_writesTone oI_X6_writesTone lk_X6_388 rfl dX6_writeTune_39 (by omega) (by omega) rfl (Or.inl rfl) (fun σ39 l39 h39 => ?_)
        have el39 := h39.1
        subst el39
        refine g_iinc1 dX6_writeTune_42 rfl (by decide) ?_
        refine g_goto (tgt := 12) dX6_writeTune_45 rfl ?_
        first
          | (have y : q ≠ 0 := by omega
             exact ih (by omega) _ _ _ (by omega) hl (by rw [hws, if_neg y, ← List.append_assoc]; exact h39.2.1) h39.2.2)
          | (have y : q = 0 := by omega
             exact ih (by omega) _ _ _ (by omega) hl (by rw [hws, if_pos y, List.nil_append]; exact h39.2.1) h39.2.2)
  refine g_aload0 dX6_writeTune_0 ?_
  refine g_iconst dX6_writeTune_1 ?_
  refine f_puti (J := 6) rfl (by decide) rfl rfl fl_X6_66 rfl (fun _ _ _ h => by cases h; rfl) dX6_writeTune_2 ?_
  refine g_aload0 dX6_writeTune_5 ?_
  refine g_iconst dX6_writeTune_6 ?_
  refine f_puti (J := 25) rfl (by decide) rfl rfl fl_X6_382 rfl (fun _ _ _ h => by cases h; rfl) dX6_writeTune_7 ?_
  refine g_iconst dX6_writeTune_10 ?_
  refine g_istore1 dX6_writeTune_11 rfl (by decide) ?_
  exact loop 0 (Nat.zero_le _) _ _ _ rfl rfl ⟨fun a a0 a1 => by rw [up_n a0, up_n a0], fun j hj h6 => by rw [up_ne (fun z => hj z.2), up_ne (fun z => h6 z.2)], by rw [up_eq]; rfl, fun j x hx => by cases hx⟩ (by rw [up_ne (fun z => by omega), up_eq])
theorem outputByte_q {L : List Int} (h9 : σ 92 25 = (L.length : Int)) (hL : L.length ≤ 120) (hv : ∀ (j : Nat) (x : Int), L[j]? = some x → σ 107 j = x) {x : Int} (hx : R32 x) : Fo g zX6_outputByte [.ref 92, iv x] σ l (iv (obV L x)) 0 := by
  refine Fn.of [some (.ref 92), some (iv x)] rfl (by decide) (Nat.le_of_ble_eq_true rfl) rfl ?_
  refine g_aload0 dX6_outputByte_0 ?_
  refine g_iconst dX6_outputByte_1 ?_
  refine f_puti (J := 6) rfl (by decide) rfl rfl fl_X6_66 rfl (fun _ _ _ h => by cases h; rfl) dX6_outputByte_2 ?_
  refine g_iload1 dX6_outputByte_5 ?_
  refine g_i2l ⟨by omega, by omega⟩ dX6_outputByte_6 ?_
  refine g_lconst0 dX6_outputByte_7 ?_
  refine g_aload0 dX6_outputByte_8 ?_
  refine f_geti (J := 25) rfl (by decide) rfl rfl fl_X6_382 dX6_outputByte_9 ?_
  rw [up_ne (fun z => by omega), h9]
  refine g_iconst dX6_outputByte_12 ?_
  refine g_isub dX6_outputByte_13 ?_
  refine g_i2l ⟨by omega, by omega⟩ dX6_outputByte_14 ?_
  refine f_cS3w (isIn_ok (by omega) (by decide) (by omega)) oY_X6_isIn oT_X6_isIn lk_X6_83 rfl dX6_outputByte_15 rfl (Or.inl rfl) ?_
  refine g_ifeqB (tgt := 30) dX6_outputByte_18 rfl (fun h18 => ?_) (fun h18 => ?_)
  · refine g_iconst dX6_outputByte_30 ?_
    refine g_iretI rfl dX6_outputByte_31 ?_
    first
      | exact Fo.ret (by unfold obV; rw [if_neg (fun z => by omega)]) (md_th (Md.refl σ)) up_eq
      | exact Fo.ret (by unfold obV; rw [if_pos ⟨by omega, by omega⟩]) (md_th (Md.refl σ)) up_eq
  · refine g_aload0 dX6_outputByte_21 ?_
    refine f_getr (r := 107) rfl (by decide) rfl rfl fl_X6_59 dX6_outputByte_22 ?_
    have hxi := hv x.toNat (L.getD x.toNat 0) (by rw [List.getD_eq_getElem?_getD, List.getElem?_eq_getElem (show x.toNat < L.length by omega)]; rfl)
    rw [Int.toNat_of_nonneg (by omega)] at hxi
    refine g_iload1 dX6_outputByte_25 ?_
    refine f_iald rfl (by decide) ⟨by omega, by show _ < ((200 : Nat) : Int); omega⟩ dX6_outputByte_26 ?_
    rw [up_n (by decide), hxi]
    refine g_goto (tgt := 31) dX6_outputByte_27 rfl ?_
    refine g_iretI rfl dX6_outputByte_31 ?_
    first
      | exact Fo.ret (by unfold obV; rw [if_neg (fun z => by omega)]) (md_th (Md.refl σ)) up_eq
      | exact Fo.ret (by unfold obV; rw [if_pos ⟨by omega, by omega⟩]) (md_th (Md.refl σ)) up_eq
theorem undo_r {B : Int} {s : Int → Int} (ho : SOK B s) (hs : σ 93 = s) (hn : σ 92 5 = 0) : Fo g zX6_undo [.ref 92] σ l (iv (-1)) 0 := by
  have hs0 : up σ 92 6 0 93 = s := (up_n (by decide)).trans hs
  have hM0 : Md σ (up σ 92 6 0) := md_th (Md.refl σ)
  have he0 : up σ 92 6 0 92 6 = 0 := up_eq
  have hp3 := p3_le ho.h7
  have hp0 := p3_pos (wH s)
  have hn40 := ho.n40
  have hnI := ho.nI
  have hH7 := ho.h7
  have hHI := ho.hI
  have hb4 := ho.halves
  have hb5 := ho.crosses
  refine Fn.of [some (.ref 92)] rfl (by decide) (Nat.le_of_ble_eq_true rfl) rfl ?_
  refine g_aload0 dX6_undo_0 ?_
  refine g_iconst dX6_undo_1 ?_
  refine f_puti (J := 6) rfl (by decide) rfl rfl fl_X6_66 rfl (fun _ _ _ h => by cases h; rfl) dX6_undo_2 ?_
  refine g_aload0 dX6_undo_5 ?_
  refine f_geti (J := 5) rfl (by decide) rfl rfl fl_X6_69 dX6_undo_6 ?_
  rw [up_ne (fun z => by omega), hn]
  refine g_if_ne ⟨by omega, by omega⟩ (tgt := 14) dX6_undo_9 rfl (fun h9 => absurd h9 (by decide)) (fun h9 => ?_)
  refine g_iconst dX6_undo_12 ?_
  refine g_iretI rfl dX6_undo_13 ?_
  exact Fo.ret rfl hM0 he0
theorem undo_q {n : Nat} (hn : σ 92 5 = ((n + 1 : Nat) : Int)) (h8 : n + 1 ≤ 8) : Ms g zX6_undo [.ref 92] σ l (iv (n : Int)) (pr σ n) n (pr σ) := by
  refine Fn.of [some (.ref 92)] rfl (by decide) (Nat.le_of_ble_eq_true rfl) rfl ?_
  refine g_aload0 dX6_undo_0 ?_
  refine g_iconst dX6_undo_1 ?_
  refine f_puti (J := 6) rfl (by decide) rfl rfl fl_X6_66 rfl (fun _ _ _ h => by cases h; rfl) dX6_undo_2 ?_
  refine g_aload0 dX6_undo_5 ?_
  refine f_geti (J := 5) rfl (by decide) rfl rfl fl_X6_69 dX6_undo_6 ?_
  rw [up_ne (fun z => by omega), hn]
  refine g_if_ne ⟨by omega, by omega⟩ (tgt := 14) dX6_undo_9 rfl (fun h9 => ?_) (fun h9 => absurd h9 (by omega))
  refine g_aload0 dX6_undo_14 ?_
  refine g_dup rfl dX6_undo_15 ?_
  refine f_geti (J := 5) rfl (by decide) rfl rfl fl_X6_69 dX6_undo_16 ?_
  rw [up_ne (fun z => by omega), hn, show ((n + 1 : Nat) : Int) = (n : Int) + 1 from by omega]
  refine g_iconst dX6_undo_19 ?_
  refine g_isub dX6_undo_20 ?_
  rw [show (n : Int) + 1 - 1 = (n : Int) from by omega]
  refine f_puti (J := 5) rfl (by decide) rfl rfl fl_X6_69 rfl (fun _ _ _ h => by cases h; rfl) dX6_undo_21 ?_
  refine g_aload0 dX6_undo_24 ?_
  refine f_getr (r := 95) rfl (by decide) rfl rfl fl_X6_16 dX6_undo_25 ?_
  refine g_bipush dX6_undo_28 (by decide) ?_
  refine g_aload0 dX6_undo_30 ?_
  refine f_geti (J := 5) rfl (by decide) rfl rfl fl_X6_69 dX6_undo_31 ?_
  rw [up_eq]
  refine g_imul dX6_undo_34 ?_
  refine g_aload0 dX6_undo_35 ?_
  refine f_getr (r := 93) rfl (by decide) rfl rfl fl_X6_7 dX6_undo_36 ?_
  refine g_iconst dX6_undo_39 ?_
  refine f_cS4d (copies_m (p := 95) (q := 93) rfl (by decide) rfl (by decide) (by decide) ⟨by omega, by show _ ≤ ((536 : Nat) : Int); omega⟩ ⟨by decide, by show (0 : Int) + 67 ≤ ((67 : Nat) : Int); decide⟩) oY_X6_copies oT_X6_copies lk_X6_72 rfl dX6_undo_40 rfl (Or.inl rfl) ?_
  refine g_aload0 dX6_undo_43 ?_
  refine f_geti (J := 5) rfl (by decide) rfl rfl fl_X6_69 dX6_undo_44 ?_
  rw [cpM_n (by decide), up_eq]
  refine g_iretI rfl dX6_undo_47 ?_
  refine Ms.ret rfl ⟨fun a a0 a1 a2 a3 => by rw [cpM_n a1, up_n a0, up_n a0], fun j h5 h6 => by rw [cpM_n (by decide), up_ne (fun z => h5 z.2), up_ne (fun z => h6 z.2)], by rw [cpM_n (by decide), up_eq], fun k k0 k1 => ?_, fun j hj k k0 k1 => ?_⟩ (by rw [cpM_n (by decide), up_ne (fun z => by omega), up_eq])
  · rw [cpM_in ⟨by omega, by omega⟩, up_n (by decide), up_n (by decide)]
    show _ = σ 95 (67 * (n : Int) + k)
    congr 1
    omega
  · show cpM _ _ _ _ _ _ 95 _ = _
    rw [cpM_n (by decide), up_n (by decide), up_n (by decide)]
    rfl
theorem saveSnapshot_q {B : Int} {s : Int → Int} (ho : SOK B s) (hs : σ 93 = s) {k : Nat} (hk : k < 2) : FX g zX6_saveSnapshot [.ref 92, iv (k : Int)] σ l (iv (s 9)) (up (cpM (up σ 92 6 0) 93 0 96 (67 * (k : Int)) 67) 97 (k : Int) 1) := by
  have h1 := isIn_ok (g := g) (σ := σ) (l := l) (x := (k : Int)) (a := 0) (b := 1) (by omega) (by decide) (by decide)
  rw [bvT (by omega)] at h1
  refine Fn.of [some (.ref 92), some (iv (k : Int))] rfl (by decide) (Nat.le_of_ble_eq_true rfl) rfl ?_
  refine g_aload0 dX6_saveSnapshot_0 ?_
  refine g_iload1 dX6_saveSnapshot_1 ?_
  refine g_i2l ⟨by omega, by omega⟩ dX6_saveSnapshot_2 ?_
  refine g_lconst0 dX6_saveSnapshot_3 ?_
  refine g_lconst1 dX6_saveSnapshot_4 ?_
  refine f_cS3w (h1) oY_X6_isIn oT_X6_isIn lk_X6_83 rfl dX6_saveSnapshot_5 rfl (Or.inl rfl) ?_
  refine g_iconst dX6_saveSnapshot_8 ?_
  refine f_cV2x (passes_11) rfl (by decide) rfl oY_X6_passes oI_X6_passes lk_X6_285 rfl dX6_saveSnapshot_9 rfl (Or.inl rfl) ?_
  refine g_if_ne ⟨by decide, by decide⟩ (tgt := 17) dX6_saveSnapshot_12 rfl (fun h12 => ?_) (fun h12 => absurd h12 (by decide))
  refine g_aload0 dX6_saveSnapshot_17 ?_
  refine f_getr (r := 93) rfl (by decide) rfl rfl fl_X6_7 dX6_saveSnapshot_18 ?_
  refine g_iconst dX6_saveSnapshot_21 ?_
  refine g_aload0 dX6_saveSnapshot_22 ?_
  refine f_getr (r := 96) rfl (by decide) rfl rfl fl_X6_19 dX6_saveSnapshot_23 ?_
  refine g_bipush dX6_saveSnapshot_26 (by decide) ?_
  refine g_iload1 dX6_saveSnapshot_28 ?_
  refine g_imul dX6_saveSnapshot_29 ?_
  refine f_cS4d (copies_m (p := 93) (q := 96) rfl (by decide) rfl (by decide) (by decide) ⟨by decide, by show (0 : Int) + 67 ≤ ((67 : Nat) : Int); decide⟩ ⟨by omega, by show _ ≤ ((134 : Nat) : Int); omega⟩) oY_X6_copies oT_X6_copies lk_X6_72 rfl dX6_saveSnapshot_30 rfl (Or.inl rfl) ?_
  refine g_aload0 dX6_saveSnapshot_33 ?_
  refine f_getr (r := 97) rfl (by decide) rfl rfl fl_X6_22 dX6_saveSnapshot_34 ?_
  refine g_iload1 dX6_saveSnapshot_37 ?_
  refine g_iconst dX6_saveSnapshot_38 ?_
  refine f_zast1 rfl (by decide) ⟨by omega, by show _ < ((2 : Nat) : Int); omega⟩ dX6_saveSnapshot_39 ?_
  refine g_aload0 dX6_saveSnapshot_40 ?_
  refine f_getr (r := 93) rfl (by decide) rfl rfl fl_X6_7 dX6_saveSnapshot_41 ?_
  refine g_bipush dX6_saveSnapshot_44 (by decide) ?_
  refine f_iald rfl (by decide) ⟨by omega, by show _ < ((67 : Nat) : Int); omega⟩ dX6_saveSnapshot_46 ?_
  rw [up_n (by decide), cpM_n (by decide), up_n (by decide), hs]
  refine g_iretI rfl dX6_saveSnapshot_47 ?_
  exact FX.ret rfl rfl
theorem saveSnapshot_r {B : Int} {s : Int → Int} (ho : SOK B s) (hs : σ 93 = s) {x : Int} (hx : R32 x) (h : ¬ (0 ≤ x ∧ x ≤ 1)) : Fo g zX6_saveSnapshot [.ref 92, iv x] σ l (iv 0) 1 := by
  have hs0 : up σ 92 6 0 93 = s := (up_n (by decide)).trans hs
  have hM0 : Md σ (up σ 92 6 0) := md_th (Md.refl σ)
  have he0 : up σ 92 6 0 92 6 = 0 := up_eq
  have hp3 := p3_le ho.h7
  have hp0 := p3_pos (wH s)
  have hn40 := ho.n40
  have hnI := ho.nI
  have hH7 := ho.h7
  have hHI := ho.hI
  have hb4 := ho.halves
  have hb5 := ho.crosses
  have h1 := isIn_ok (g := g) (σ := σ) (l := l) (x := x) (a := 0) (b := 1) (by omega) (by decide) (by decide)
  rw [bvF h] at h1
  refine Fn.of [some (.ref 92), some (iv x)] rfl (by decide) (Nat.le_of_ble_eq_true rfl) rfl ?_
  refine g_aload0 dX6_saveSnapshot_0 ?_
  refine g_iload1 dX6_saveSnapshot_1 ?_
  refine g_i2l ⟨by omega, by omega⟩ dX6_saveSnapshot_2 ?_
  refine g_lconst0 dX6_saveSnapshot_3 ?_
  refine g_lconst1 dX6_saveSnapshot_4 ?_
  refine f_cS3w (h1) oY_X6_isIn oT_X6_isIn lk_X6_83 rfl dX6_saveSnapshot_5 rfl (Or.inl rfl) ?_
  refine g_iconst dX6_saveSnapshot_8 ?_
  refine f_cV2x (passes_01) rfl (by decide) rfl oY_X6_passes oI_X6_passes lk_X6_285 rfl dX6_saveSnapshot_9 rfl (Or.inl rfl) ?_
  refine g_if_ne ⟨by decide, by decide⟩ (tgt := 17) dX6_saveSnapshot_12 rfl (fun h12 => absurd h12 (by decide)) (fun h12 => ?_)
  refine g_iconst dX6_saveSnapshot_15 ?_
  refine g_iretI rfl dX6_saveSnapshot_16 ?_
  exact Fo.ret rfl (md_th (Md.refl σ)) up_eq
theorem restoreSnapshot_r {B : Int} {s : Int → Int} (ho : SOK B s) (hs : σ 93 = s) {x : Int} (hx : R32 x) (h : ¬ (0 ≤ x ∧ x ≤ 1)) : Fo g zX6_restoreSnapshot [.ref 92, iv x] σ l (iv 0) 1 := by
  have hs0 : up σ 92 6 0 93 = s := (up_n (by decide)).trans hs
  have hM0 : Md σ (up σ 92 6 0) := md_th (Md.refl σ)
  have he0 : up σ 92 6 0 92 6 = 0 := up_eq
  have hp3 := p3_le ho.h7
  have hp0 := p3_pos (wH s)
  have hn40 := ho.n40
  have hnI := ho.nI
  have hH7 := ho.h7
  have hHI := ho.hI
  have hb4 := ho.halves
  have hb5 := ho.crosses
  have h1 := isIn_ok (g := g) (σ := σ) (l := l) (x := x) (a := 0) (b := 1) (by omega) (by decide) (by decide)
  rw [bvF h] at h1
  refine Fn.of [some (.ref 92), some (iv x)] rfl (by decide) (Nat.le_of_ble_eq_true rfl) rfl ?_
  refine g_aload0 dX6_restoreSnapshot_0 ?_
  refine g_iload1 dX6_restoreSnapshot_1 ?_
  refine g_i2l ⟨by omega, by omega⟩ dX6_restoreSnapshot_2 ?_
  refine g_lconst0 dX6_restoreSnapshot_3 ?_
  refine g_lconst1 dX6_restoreSnapshot_4 ?_
  refine f_cS3w (h1) oY_X6_isIn oT_X6_isIn lk_X6_83 rfl dX6_restoreSnapshot_5 rfl (Or.inl rfl) ?_
  refine g_iconst dX6_restoreSnapshot_8 ?_
  refine f_cV2x (passes_01) rfl (by decide) rfl oY_X6_passes oI_X6_passes lk_X6_285 rfl dX6_restoreSnapshot_9 rfl (Or.inl rfl) ?_
  refine g_if_ne ⟨by decide, by decide⟩ (tgt := 17) dX6_restoreSnapshot_12 rfl (fun h12 => absurd h12 (by decide)) (fun h12 => ?_)
  refine g_iconst dX6_restoreSnapshot_15 ?_
  refine g_iretI rfl dX6_restoreSnapshot_16 ?_
  exact Fo.ret rfl (md_th (Md.refl σ)) up_eq
theorem restoreSnapshot_f {B : Int} {s : Int → Int} (ho : SOK B s) (hs : σ 93 = s) {k : Nat} (hk : k < 2) (h0 : σ 97 (k : Int) = 0) : Fo g zX6_restoreSnapshot [.ref 92, iv (k : Int)] σ l (iv (-1)) 0 := by
  have hs0 : up σ 92 6 0 93 = s := (up_n (by decide)).trans hs
  have hM0 : Md σ (up σ 92 6 0) := md_th (Md.refl σ)
  have he0 : up σ 92 6 0 92 6 = 0 := up_eq
  have hp3 := p3_le ho.h7
  have hp0 := p3_pos (wH s)
  have hn40 := ho.n40
  have hnI := ho.nI
  have hH7 := ho.h7
  have hHI := ho.hI
  have hb4 := ho.halves
  have hb5 := ho.crosses
  have h1 := isIn_ok (g := g) (σ := σ) (l := l) (x := (k : Int)) (a := 0) (b := 1) (by omega) (by decide) (by decide)
  rw [bvT (by omega)] at h1
  refine Fn.of [some (.ref 92), some (iv (k : Int))] rfl (by decide) (Nat.le_of_ble_eq_true rfl) rfl ?_
  refine g_aload0 dX6_restoreSnapshot_0 ?_
  refine g_iload1 dX6_restoreSnapshot_1 ?_
  refine g_i2l ⟨by omega, by omega⟩ dX6_restoreSnapshot_2 ?_
  refine g_lconst0 dX6_restoreSnapshot_3 ?_
  refine g_lconst1 dX6_restoreSnapshot_4 ?_
  refine f_cS3w (h1) oY_X6_isIn oT_X6_isIn lk_X6_83 rfl dX6_restoreSnapshot_5 rfl (Or.inl rfl) ?_
  refine g_iconst dX6_restoreSnapshot_8 ?_
  refine f_cV2x (passes_11) rfl (by decide) rfl oY_X6_passes oI_X6_passes lk_X6_285 rfl dX6_restoreSnapshot_9 rfl (Or.inl rfl) ?_
  refine g_if_ne ⟨by decide, by decide⟩ (tgt := 17) dX6_restoreSnapshot_12 rfl (fun h12 => ?_) (fun h12 => absurd h12 (by decide))
  refine g_aload0 dX6_restoreSnapshot_17 ?_
  refine f_getr (r := 97) rfl (by decide) rfl rfl fl_X6_22 dX6_restoreSnapshot_18 ?_
  refine g_iload1 dX6_restoreSnapshot_21 ?_
  refine f_zald rfl (by decide) ⟨by omega, by show _ < ((2 : Nat) : Int); omega⟩ dX6_restoreSnapshot_22 ?_
  rw [up_n (by decide), h0]
  refine g_if_ne ⟨by omega, by omega⟩ (tgt := 28) dX6_restoreSnapshot_23 rfl (fun h23 => absurd h23 (by decide)) (fun h23 => ?_)
  refine g_iconst dX6_restoreSnapshot_26 ?_
  refine g_iretI rfl dX6_restoreSnapshot_27 ?_
  exact Fo.ret rfl hM0 he0
theorem restoreSnapshot_q {k : Nat} (hk : k < 2) (h0 : σ 97 (k : Int) = 1) : FX g zX6_restoreSnapshot [.ref 92, iv (k : Int)] σ l (iv (σ 96 (67 * (k : Int) + 9))) (up (cpM (up σ 92 6 0) 96 (67 * (k : Int)) 93 0 67) 92 5 0) := by
  have h1 := isIn_ok (g := g) (σ := σ) (l := l) (x := (k : Int)) (a := 0) (b := 1) (by omega) (by decide) (by decide)
  rw [bvT (by omega)] at h1
  refine Fn.of [some (.ref 92), some (iv (k : Int))] rfl (by decide) (Nat.le_of_ble_eq_true rfl) rfl ?_
  refine g_aload0 dX6_restoreSnapshot_0 ?_
  refine g_iload1 dX6_restoreSnapshot_1 ?_
  refine g_i2l ⟨by omega, by omega⟩ dX6_restoreSnapshot_2 ?_
  refine g_lconst0 dX6_restoreSnapshot_3 ?_
  refine g_lconst1 dX6_restoreSnapshot_4 ?_
  refine f_cS3w (h1) oY_X6_isIn oT_X6_isIn lk_X6_83 rfl dX6_restoreSnapshot_5 rfl (Or.inl rfl) ?_
  refine g_iconst dX6_restoreSnapshot_8 ?_
  refine f_cV2x (passes_11) rfl (by decide) rfl oY_X6_passes oI_X6_passes lk_X6_285 rfl dX6_restoreSnapshot_9 rfl (Or.inl rfl) ?_
  refine g_if_ne ⟨by decide, by decide⟩ (tgt := 17) dX6_restoreSnapshot_12 rfl (fun h12 => ?_) (fun h12 => absurd h12 (by decide))
  refine g_aload0 dX6_restoreSnapshot_17 ?_
  refine f_getr (r := 97) rfl (by decide) rfl rfl fl_X6_22 dX6_restoreSnapshot_18 ?_
  refine g_iload1 dX6_restoreSnapshot_21 ?_
  refine f_zald rfl (by decide) ⟨by omega, by show _ < ((2 : Nat) : Int); omega⟩ dX6_restoreSnapshot_22 ?_
  rw [up_n (by decide), h0]
  refine g_if_ne ⟨by omega, by omega⟩ (tgt := 28) dX6_restoreSnapshot_23 rfl (fun h23 => ?_) (fun h23 => absurd h23 (by decide))
  refine g_aload0 dX6_restoreSnapshot_28 ?_
  refine f_getr (r := 96) rfl (by decide) rfl rfl fl_X6_19 dX6_restoreSnapshot_29 ?_
  refine g_bipush dX6_restoreSnapshot_32 (by decide) ?_
  refine g_iload1 dX6_restoreSnapshot_34 ?_
  refine g_imul dX6_restoreSnapshot_35 ?_
  refine g_aload0 dX6_restoreSnapshot_36 ?_
  refine f_getr (r := 93) rfl (by decide) rfl rfl fl_X6_7 dX6_restoreSnapshot_37 ?_
  refine g_iconst dX6_restoreSnapshot_40 ?_
  refine f_cS4d (copies_m (p := 96) (q := 93) rfl (by decide) rfl (by decide) (by decide) ⟨by omega, by show _ ≤ ((134 : Nat) : Int); omega⟩ ⟨by decide, by show (0 : Int) + 67 ≤ ((67 : Nat) : Int); decide⟩) oY_X6_copies oT_X6_copies lk_X6_72 rfl dX6_restoreSnapshot_41 rfl (Or.inl rfl) ?_
  refine g_aload0 dX6_restoreSnapshot_44 ?_
  refine g_iconst dX6_restoreSnapshot_45 ?_
  refine f_puti (J := 5) rfl (by decide) rfl rfl fl_X6_69 rfl (fun _ _ _ h => by cases h; rfl) dX6_restoreSnapshot_46 ?_
  refine g_aload0 dX6_restoreSnapshot_49 ?_
  refine f_getr (r := 93) rfl (by decide) rfl rfl fl_X6_7 dX6_restoreSnapshot_50 ?_
  refine g_bipush dX6_restoreSnapshot_53 (by decide) ?_
  refine f_iald rfl (by decide) ⟨by omega, by show _ < ((67 : Nat) : Int); omega⟩ dX6_restoreSnapshot_55 ?_
  rw [up_n (by decide), cpM_in ⟨by decide, by decide⟩, up_n (by decide), show (9 : Int) - 0 + 67 * (k : Int) = 67 * (k : Int) + 9 from by omega]
  refine g_iretI rfl dX6_restoreSnapshot_56 ?_
  exact FX.ret rfl rfl
end C83
