/-! The model's reader: all of a description -/
section C89
variable {g : gT} {σ τ : sT} {l : Nat → Nat}
theorem rNum_p {T : Int → Int} {N p e : Nat} {lo hi v : Int} (hp : p ≤ N) (h : rNum T N lo hi p = .inr (v, e)) : p ≤ e := by
  have h1 := (rNum_r h).2.2.2.2
  have h2 := sk_le (Q := isSp) (T := T) hp
  have h3 := sk_le (Q := isDg) (T := T) h2.2
  omega
theorem rPart_p {T : Int → Int} {N p o o2 e : Nat} {d d2 : Int → Int} {b b2 : Nat → Int} {c : Int} (hp : p ≤ N) (hc : c = 40 ∨ c = 41 → p < N) (h : rPart T N d p o b c = .inr ((d2, e), o2, b2)) : p ≤ e ∧ e ≤ N := by
  unfold rPart at h
  split at h
  · next c1 =>
    have hpN := hc (Or.inl c1)
    unfold rOpen at h
    split at h
    · cases h
    · cases h; omega
  · split at h
    · next c1 =>
      have hpN := hc (Or.inr c1)
      by_cases o0 : o = 0
      · unfold rClose at h; rw [if_pos o0] at h; cases h
      · rw [rClose_r o0] at h
        rcases hr : rRep T N d (b (o - 1)) (p + 1) with x | ⟨d3, e3⟩
        · rw [hr] at h; cases h
        · rw [hr] at h
          cases h
          have h1 := rRep_e (by omega) hr
          unfold rRep at hr
          rcases hr2 : rNum T N 1 9 (p + 1) with x | ⟨v, e1⟩
          · rw [hr2] at hr; cases hr
          · rw [hr2] at hr
            simp only at hr
            have h5 := num_le (show p + 1 ≤ N by omega) hr2
            split at hr
            · cases hr
            · cases hr; omega
    · split at h
      · rcases hr : rNum T N 0 24 p with x | ⟨v, e1⟩
        · rw [hr] at h; cases h
        · rw [hr] at h
          simp only at h
          have h1 := rNum_p hp hr
          have h2 := num_le hp hr
          rcases hr2 : rNote d (sk isSp T N p) v with x | d3
          · rw [hr2] at h; cases h
          · rw [hr2] at h; cases h; omega
      · split at h
        · have h2 := sk_le (Q := isSp) (T := T) hp
          have h3 := sk_le (Q := isLt) (T := T) h2.2
          rcases hr2 : rNote d (sk isSp T N p) (-1) with x | d3
          · rw [hr2] at h; cases h
          · rw [hr2] at h; cases h; omega
        · cases h
theorem rTu_p {T : Int → Int} {N : Nat} : ∀ (f : Nat) (d : Int → Int) (p o : Nat) (b : Nat → Int) (m : Bool) (d2 : Int → Int) (e : Nat), p ≤ N → rTu T N f d p o b m = .inr (d2, e) → p ≤ e := by
  intro f
  induction f with
  | zero => intro d p o b m d2 e hp h; cases h
  | succ f ih =>
    intro d p o b m d2 e hp h
    have hs := sk_le (Q := isSp) (T := T) hp
    unfold rTu at h
    split at h
    · cases h
    · split at h
      · split at h
        · cases h; exact hs.1
        · cases h
      · rcases hr : rPart T N d (sk isSp T N p) o b (sgn T N (sk isSp T N p)) with x | ⟨⟨d3, e3⟩, o3, b3⟩
        · rw [hr] at h; cases h
        · rw [hr] at h
          simp only at h
          have h2 := rPart_p hs.2 (fun z => sgn_lt (fun y => by rw [y] at z; omega)) hr
          have h4 := ih _ _ _ _ _ _ _ h2.2 h
          omega
theorem rHole_p {T : Int → Int} {N p q e : Nat} {d d2 : Int → Int} (hp : p ≤ N) (ho : SOK 0 d) (h : rHole T N d q p = .inr (d2, e)) : p ≤ e ∧ SOK 0 d2 := by
  unfold rHole at h
  split at h
  · cases h
  · next c =>
    rcases hr : rNum T N (if d 3 = 0 then 1 else wPl d (d 3 - 1) + 1) (d 0 - 1) p with x | ⟨v, e1⟩
    · rw [hr] at h; cases h
    · rw [hr] at h
      simp only at h
      rcases hr2 : rNum T N 2 15 e1 with x | ⟨w, e2⟩
      · rw [hr2] at h; cases h
      · rw [hr2] at h
        cases h
        have h1 := rNum_p hp hr
        have h2 := rNum_p (num_le hp hr) hr2
        have r1 := rNum_r hr
        have r2 := rNum_r hr2
        have o3 := ho.holes
        have o0 := ho.len
        refine ⟨by omega, hoS_ok ho (by omega) ⟨?_, by omega⟩ ⟨r2.1, r2.2.1⟩⟩
        have r3 := r1.1
        by_cases c0 : d 3 = 0
        · rw [if_pos c0] at r3; exact r3
        · rw [if_neg c0] at r3
          have := ho.hol (d 3 - 1) (by omega) (by omega)
          omega
theorem rLimit_p {T : Int → Int} {N p e : Nat} {d d2 : Int → Int} (hp : p ≤ N) (ho : SOK 0 d) (h : rLimit T N d p = .inr (d2, e)) : p ≤ e ∧ SOK 0 d2 := by
  unfold rLimit at h
  rcases hr : rNum T N 0 2 p with x | ⟨v, e1⟩
  · rw [hr] at h; cases h
  · rw [hr] at h
    simp only at h
    rcases hr2 : rNum T N 0 3 e1 with x | ⟨w, e2⟩
    · rw [hr2] at h; cases h
    · rw [hr2] at h
      cases h
      have h1 := rNum_p hp hr
      have h2 := rNum_p (num_le hp hr) hr2
      have r1 := rNum_r hr
      have r2 := rNum_r hr2
      exact ⟨by omega, (ho.u4 ⟨r1.1, r1.2.1⟩).u5 ⟨r2.1, r2.2.1⟩⟩
theorem rCost_p {T : Int → Int} {N p e : Nat} {d d2 : Int → Int} (hp : p ≤ N) (ho : SOK 0 d) (h : rCost T N d p = .inr (d2, e)) : p ≤ e ∧ SOK 0 d2 := by
  unfold rCost at h
  rcases hr : rNum T N 1 9 p with x | ⟨v, e1⟩
  · rw [hr] at h; cases h
  · rw [hr] at h
    simp only at h
    rcases hr2 : rNum T N 1 9 e1 with x | ⟨w, e2⟩
    · rw [hr2] at h; cases h
    · rw [hr2] at h
      simp only at h
      rcases hr3 : rNum T N 0 9 e2 with x | ⟨u, e3⟩
      · rw [hr3] at h; cases h
      · rw [hr3] at h
        cases h
        have h1 := rNum_p hp hr
        have h2 := rNum_p (num_le hp hr) hr2
        have h3 := rNum_p (num_le (num_le hp hr) hr2) hr3
        have r1 := rNum_r hr
        have r2 := rNum_r hr2
        have r3 := rNum_r hr3
        exact ⟨by omega, ((ho.u6 ⟨r1.1, r1.2.1⟩).u7 ⟨r2.1, r2.2.1⟩).u8 ⟨r3.1, r3.2.1⟩⟩
theorem PSm.stm {N : Nat} {st : Int} {q : (Int → Int) × Nat} (h : PSm σ N st q τ) : PSm σ N (st + 1) q (up τ 92 22 (st + 1)) := ⟨h.1.u9 (by omega), by rw [up_ne (fun z => by omega)]; exact h.2.1, by rw [up_ne (fun z => by omega)]; exact h.2.2.1, up_eq, by rw [up_ne (fun z => by omega)]; exact h.2.2.2.2.1, by rw [up_n (by decide)]; exact h.2.2.2.2.2.1, h.2.2.2.2.2.2⟩
def RdA (σ : sT) (e : Int × Nat × Int) (τ : sT) : Prop := PFm σ e.2.2 (e.1, e.2.1) τ
def RdB (σ : sT) (N : Nat) (d : Int → Int) (τ : sT) : Prop := ∃ (st : Int) (p : Nat), PSm σ N st (d, p) τ ∧ SOK 0 d
theorem readsTune_m {N : Nat} (hT : TX (σ 105) N) (hln : σ 92 15 = (N : Int)) {st : Int} {d : Int → Int} {p : Nat} (h : PSm σ N st (d, p) τ) (ho : SOK 0 d) (hp : N - p < 400) : Fn g zX6_readsTune 0 0 [.ref 92] τ l (Rv l (TA σ N st) (TB2 σ N st) (rTu (σ 105) N 400 d p 0 (fun _ => 0) true)) := by
  refine Fn.of [some (.ref 92), none, none, none, none, none] rfl (by decide) (Nat.le_of_ble_eq_true rfl) rfl ?_
  refine g_iconst dX6_readsTune_0 ?_
  refine g_istore1 dX6_readsTune_1 rfl (by decide) ?_
  refine g_iconst dX6_readsTune_2 ?_
  refine g_istore2 dX6_readsTune_3 rfl (by decide) ?_
  refine g_iconst dX6_readsTune_4 ?_
  refine g_istore3 dX6_readsTune_5 rfl (by decide) ?_
  exact tuneM hT hln 400 d p 0 (fun _ => 0) true τ _ _ _ h ho (Nat.zero_le _) (fun j hj => by omega) hp (by rw [if_pos rfl])
theorem readsTune_f {st : Int} {e : Int × Nat} (h : PFm σ st e τ) : FO g zX6_readsTune [.ref 92] τ l τ := by
  refine Fn.of [some (.ref 92), none, none, none, none, none] rfl (by decide) (Nat.le_of_ble_eq_true rfl) rfl ?_
  refine g_iconst dX6_readsTune_0 ?_
  refine g_istore1 dX6_readsTune_1 rfl (by decide) ?_
  refine g_iconst dX6_readsTune_2 ?_
  refine g_istore2 dX6_readsTune_3 rfl (by decide) ?_
  refine g_iconst dX6_readsTune_4 ?_
  refine g_istore3 dX6_readsTune_5 rfl (by decide) ?_
  refine g_iload3 dX6_readsTune_6 ?_
  refine g_if_eq ⟨by decide, by decide⟩ (tgt := 208) dX6_readsTune_7 rfl (fun h7 => absurd h7 (by decide)) (fun h7 => ?_)
  refine g_aload0 dX6_readsTune_10 ?_
  refine f_cV0w (fine_n h) rfl (by decide) rfl oY_X6_isFine oI_X6_isFine lk_X6_230 rfl dX6_readsTune_11 rfl (Or.inl rfl) ?_
  refine g_if_eq ⟨by decide, by decide⟩ (tgt := 208) dX6_readsTune_14 rfl (fun h14 => ?_) (fun h14 => absurd h14 (by decide))
  refine g_return rfl dX6_readsTune_208 ?_
  exact FO.ret rfl
theorem reads_F {N : Nat} {st ht : Int} {k : Int} {pl : Nat} {r : Sum (Int × Nat × Int) (Int → Int)} (h : PFm σ st (k, pl) τ) (hr : r = .inl (k, pl, st)) : FW g zX6_reads 0 0 (Rv l (RdA σ) (RdB σ N) (r)) 66 [some (.ref 92), some (iv ht)] [] τ l := by
  refine g_aload0 dX6_reads_66 ?_
  refine f_cV0w (fine_n h) rfl (by decide) rfl oY_X6_isFine oI_X6_isFine lk_X6_230 rfl dX6_reads_67 rfl (Or.inl rfl) ?_
  refine g_if_eq ⟨by decide, by decide⟩ (tgt := 281) dX6_reads_70 rfl (fun h70 => ?_) (fun h70 => absurd h70 (by decide))
  refine g_return rfl dX6_reads_281 ?_
  exact Rv.no hr h
theorem reads_T {N : Nat} {st ht : Int} {e : Int × Nat} {r : Sum (Int × Nat × Int) (Int → Int)} (hT : TX (σ 105) N) (hln : σ 92 15 = (N : Int)) (h : TA σ N st e τ) (hr : r = .inl (e.1, e.2, st)) : FW g zX6_reads 0 0 (Rv l (RdA σ) (RdB σ N) (r)) 66 [some (.ref 92), some (iv ht)] [] τ l := by
  rcases h with h | ⟨e1, e2, e3, d, h⟩
  · exact reads_F h hr
  · have hN := hT.1
    have hq : sk isSp (σ 105) N e.2 = e.2 := sk_e (fun z => by have h9 := of_decide_eq_true z.2; omega)
    have hlook := looks_m (g := g) (l := l) hT (h.ln hln) h.tx h.2.2.2.2.1 (show e.2 ≤ N by omega)
    rw [hq, sgn_at e2, e3] at hlook
    have hK := h.look (q := e.2) (by omega)
    obtain ⟨ρ, hρ⟩ : ∃ ρ : sT, ρ = up (up τ 92 16 (e.2 : Int)) 92 17 (e.2 : Int) := ⟨_, rfl⟩
    rw [← hρ] at hK hlook
    have hfr : ρ 92 17 = (e.2 : Int) := by rw [hρ, up_eq]
    have hby := byteAt_m (g := g) (l := l) hT (hK.ln hln) hK.tx (p := e.2) (by omega)
    rw [sgn_at e2, e3] at hby
    have hF := hK.fail (k := 1) (pl := e.2) ⟨by decide, by decide⟩
    rw [e1] at hr
    refine g_aload0 dX6_reads_66 ?_
    refine f_cV0w (fine_y h) rfl (by decide) rfl oY_X6_isFine oI_X6_isFine lk_X6_230 rfl dX6_reads_67 rfl (Or.inl rfl) ?_
    refine g_if_eq ⟨by decide, by decide⟩ (tgt := 281) dX6_reads_70 rfl (fun h70 => absurd h70 (by decide)) (fun h70 => ?_)
    refine g_aload0 dX6_reads_73 ?_
    refine f_cV0x (hlook) rfl (by decide) rfl oY_X6_looks oI_X6_looks lk_X6_216 rfl dX6_reads_74 rfl (Or.inl rfl) ?_
    refine g_iconst dX6_reads_77 ?_
    refine g_icmp_eq ⟨by decide, by decide⟩ ⟨by decide, by decide⟩ (tgt := 281) dX6_reads_78 rfl (fun h78 => absurd h78 (by decide)) (fun h78 => ?_)
    refine g_aload0 dX6_reads_81 ?_
    refine g_aload0 dX6_reads_82 ?_
    refine f_geti (J := 16) rfl (by decide) rfl rfl fl_X6_199 dX6_reads_83 ?_
    rw [hK.2.2.2.2.1]
    refine f_cV1w (hby) rfl (by decide) rfl oY_X6_byteAt oI_X6_byteAt lk_X6_202 rfl dX6_reads_86 rfl (Or.inl rfl) ?_
    refine g_bipush dX6_reads_89 (by decide) ?_
    refine g_icmp_eq ⟨by decide, by decide⟩ ⟨by decide, by decide⟩ (tgt := 104) dX6_reads_91 rfl (fun h91 => absurd h91 (by decide)) (fun h91 => ?_)
    refine g_aload0 dX6_reads_94 ?_
    refine g_iconst dX6_reads_95 ?_
    refine g_aload0 dX6_reads_96 ?_
    refine f_geti (J := 17) rfl (by decide) rfl rfl fl_X6_205 dX6_reads_97 ?_
    rw [hfr]
    refine f_cV2d (fails_0 hK.2.1) rfl (by decide) rfl oY_X6_fails oI_X6_fails lk_X6_237 rfl dX6_reads_100 rfl (Or.inl rfl) ?_
    refine g_return rfl dX6_reads_103 ?_
    exact Rv.no hr hF
def rLs (T : Int → Int) (N f : Nat) (d : Int → Int) (ht : Int) (p : Nat) (st : Int) : Sum (Int × Nat × Int) (Int → Int) := match rStm T N d ht p with
  | .inl e => .inl (e.1, e.2, st)
  | .inr y => rLp T N f y.1.1 y.1.2 y.2 st
theorem reads_s {N : Nat} (hT : TX (σ 105) N) (hln : σ 92 15 = (N : Int)) {f : Nat} (ih : ∀ (d : Int → Int) (p : Nat) (st ht : Int) (τ : sT), PSm σ N st (d, p) τ → SOK 0 d → (ht = 0 ∨ ht = 1) → N - p ≤ f → FW g zX6_reads 0 0 (Rv l (RdA σ) (RdB σ N) (rLp (σ 105) N f d p ht st)) 66 [some (.ref 92), some (iv ht)] [] τ l) {st ht : Int} {d : Int → Int} {p q e : Nat} (hp : p ≤ N) (h1p : 1 ≤ p) (hf : N - p ≤ f) (hq : q = sk isSp (σ 105) N p) (he : e = sk isLt (σ 105) N q) (hW : PSm σ N st (d, e) τ) (ho : SOK 0 d) (hht : ht = 0 ∨ ht = 1) (hwf : τ 92 17 = (q : Int)) : FW g zX6_reads 0 0 (Rv l (RdA σ) (RdB σ N) (rLs (σ 105) N f d ht p st)) 128 [some (.ref 92), some (iv ht)] [] τ l := by
  have hN := hT.1
  have hs := sk_le (Q := isSp) (T := σ 105) hp
  rw [← hq] at hs
  have hs2 := sk_le (Q := isLt) (T := σ 105) hs.2
  rw [← he] at hs2
  have hw : ∀ i : Nat, i < 6 → Fw g zX6_was [.ref 92, .ref (KB + (2 + i))] τ l (bv (isWB (σ 105) q e i = true)) := fun i hi => was_m hT hW.tx hW.2.2.2.2.1 hwf hs2 hi
  have hst : rStm (σ 105) N d ht p = if isWB (σ 105) q e 1 = true then (match rHole (σ 105) N d q e with
      | .inl e => .inl e
      | .inr y => .inr (y, ht))
    else if isWB (σ 105) q e 2 = true then (match rLimit (σ 105) N d e with
      | .inl e => .inl e
      | .inr y => .inr (y, ht))
    else if isWB (σ 105) q e 3 = true then (match rCost (σ 105) N d e with
      | .inl e => .inl e
      | .inr y => .inr (y, ht))
    else if isWB (σ 105) q e 4 = true then (match rTune (σ 105) N d ht q e with
      | .inl e => .inl e
      | .inr y => .inr (y, 1))
    else .inl (1, q) := by rw [he, hq]; rfl
  have w1 := hw 1 (by decide)
  have w2 := hw 2 (by decide)
  have w3 := hw 3 (by decide)
  have w4 := hw 4 (by decide)
  by_cases c1 : isWB (σ 105) q e 1 = true
  · rw [bvT c1] at w1
    rw [if_pos c1] at hst
    rcases hr : rHole (σ 105) N d q e with x | ⟨d2, e2⟩
    · refine g_aload0 dX6_reads_128 ?_
      refine g_ldcwS ks_X6_256 dX6_reads_129 ?_
      refine f_cV1w (w1) rfl (by decide) rfl oY_X6_was oI_X6_was lk_X6_246 rfl dX6_reads_132 rfl (Or.inl rfl) ?_
      refine g_if_eq ⟨by decide, by decide⟩ (tgt := 145) dX6_reads_135 rfl (fun h135 => absurd h135 (by decide)) (fun h135 => ?_)
      refine g_aload0 dX6_reads_138 ?_
      refine f_cV0m ((Fn.mono (readsHole_m hT hln hW ho hwf) (fun o ρ l' k => ⟨k.2.1, k.1, by have k2 := k.2.2; rw [hr] at k2; exact k2⟩) : Fu g zX6_readsHole 0 0 [.ref 92] τ l (fun ρ l' => l' = l ∧ PFm σ st x ρ))) rfl (by decide) rfl oY_X6_readsHole oI_X6_readsHole lk_X6_258 rfl dX6_reads_139 (by omega) (by omega) rfl (Or.inl rfl) (fun σ139 l139 h139 => ?_)
      have el139 := h139.1
      subst el139
      have K1 := h139.2
      refine g_goto (tgt := 66) dX6_reads_142 rfl ?_
      exact reads_F (k := x.1) (pl := x.2) K1 (by unfold rLs; simp only [hst, hr])
    · have hP := rHole_p hs2.2 ho hr
      refine g_aload0 dX6_reads_128 ?_
      refine g_ldcwS ks_X6_256 dX6_reads_129 ?_
      refine f_cV1w (w1) rfl (by decide) rfl oY_X6_was oI_X6_was lk_X6_246 rfl dX6_reads_132 rfl (Or.inl rfl) ?_
      refine g_if_eq ⟨by decide, by decide⟩ (tgt := 145) dX6_reads_135 rfl (fun h135 => absurd h135 (by decide)) (fun h135 => ?_)
      refine g_aload0 dX6_reads_138 ?_
      refine f_cV0m ((Fn.mono (readsHole_m hT hln hW ho hwf) (fun o ρ l' k => ⟨k.2.1, k.1, by have k2 := k.2.2; rw [hr] at k2; exact k2⟩) : Fu g zX6_readsHole 0 0 [.ref 92] τ l (fun ρ l' => l' = l ∧ PSm σ N st (d2, e2) ρ))) rfl (by decide) rfl oY_X6_readsHole oI_X6_readsHole lk_X6_258 rfl dX6_reads_139 (by omega) (by omega) rfl (Or.inl rfl) (fun σ139 l139 h139 => ?_)
      have el139 := h139.1
      subst el139
      have K1 := h139.2
      refine g_goto (tgt := 66) dX6_reads_142 rfl ?_
      rw [show rLs (σ 105) N f d ht p st = rLp (σ 105) N f (d2) e2 ht st from by unfold rLs; simp only [hst, hr]]
      exact ih (d2) e2 st ht _ K1 hP.2 hht (by have := hP.1; omega)
  · rw [bvF c1] at w1
    rw [if_neg c1] at hst
    by_cases c2 : isWB (σ 105) q e 2 = true
    · rw [bvT c2] at w2
      rw [if_pos c2] at hst
      rcases hr1 : rNum (σ 105) N 0 2 e with x | ⟨v, e1⟩
      · refine g_aload0 dX6_reads_128 ?_
        refine g_ldcwS ks_X6_256 dX6_reads_129 ?_
        refine f_cV1w (w1) rfl (by decide) rfl oY_X6_was oI_X6_was lk_X6_246 rfl dX6_reads_132 rfl (Or.inl rfl) ?_
        refine g_if_eq ⟨by decide, by decide⟩ (tgt := 145) dX6_reads_135 rfl (fun h135 => ?_) (fun h135 => absurd h135 (by decide))
        refine g_aload0 dX6_reads_145 ?_
        refine g_ldcwS ks_X6_261 dX6_reads_146 ?_
        refine f_cV1w (w2) rfl (by decide) rfl oY_X6_was oI_X6_was lk_X6_246 rfl dX6_reads_149 rfl (Or.inl rfl) ?_
        refine g_if_eq ⟨by decide, by decide⟩ (tgt := 182) dX6_reads_152 rfl (fun h152 => absurd h152 (by decide)) (fun h152 => ?_)
        refine g_aload0 dX6_reads_155 ?_
        refine f_getr (r := 94) rfl (by decide) rfl rfl fl_X6_13 dX6_reads_156 ?_
        refine g_iconst dX6_reads_159 ?_
        refine g_aload0 dX6_reads_160 ?_
        refine g_iconst dX6_reads_161 ?_
        refine g_iconst dX6_reads_162 ?_
        refine f_cV2q (number_n hT hln hW ⟨by decide, by decide⟩ ⟨by decide, by decide⟩ hr1) rfl (by decide) rfl oY_X6_number oI_X6_number lk_X6_250 rfl dX6_reads_163 (by omega) (by omega) rfl (Or.inl rfl) (fun σ163 l163 h163 => ?_)
        have el163 := h163.1
        subst el163
        have F1 := h163.2.1
        refine f_iast rfl (by decide) ⟨by omega, by show _ < ((67 : Nat) : Int); omega⟩ dX6_reads_166 ?_
        refine g_aload0 dX6_reads_167 ?_
        refine f_getr (r := 94) rfl (by decide) rfl rfl fl_X6_13 dX6_reads_168 ?_
        refine g_iconst dX6_reads_171 ?_
        refine g_aload0 dX6_reads_172 ?_
        refine g_iconst dX6_reads_173 ?_
        refine g_iconst dX6_reads_174 ?_
        refine f_cV2w (number_f F1.set) rfl (by decide) rfl oY_X6_number oI_X6_number lk_X6_250 rfl dX6_reads_175 rfl (Or.inl rfl) ?_
        refine f_iast rfl (by decide) ⟨by omega, by show _ < ((67 : Nat) : Int); omega⟩ dX6_reads_178 ?_
        refine g_goto (tgt := 66) dX6_reads_179 rfl ?_
        exact reads_F (k := x.1) (pl := x.2) F1.set.set (by unfold rLs; simp only [hst, rLimit, hr1])
      · rcases hr2 : rNum (σ 105) N 0 3 e1 with x | ⟨w, e2⟩
        · refine g_aload0 dX6_reads_128 ?_
          refine g_ldcwS ks_X6_256 dX6_reads_129 ?_
          refine f_cV1w (w1) rfl (by decide) rfl oY_X6_was oI_X6_was lk_X6_246 rfl dX6_reads_132 rfl (Or.inl rfl) ?_
          refine g_if_eq ⟨by decide, by decide⟩ (tgt := 145) dX6_reads_135 rfl (fun h135 => ?_) (fun h135 => absurd h135 (by decide))
          refine g_aload0 dX6_reads_145 ?_
          refine g_ldcwS ks_X6_261 dX6_reads_146 ?_
          refine f_cV1w (w2) rfl (by decide) rfl oY_X6_was oI_X6_was lk_X6_246 rfl dX6_reads_149 rfl (Or.inl rfl) ?_
          refine g_if_eq ⟨by decide, by decide⟩ (tgt := 182) dX6_reads_152 rfl (fun h152 => absurd h152 (by decide)) (fun h152 => ?_)
          refine g_aload0 dX6_reads_155 ?_
          refine f_getr (r := 94) rfl (by decide) rfl rfl fl_X6_13 dX6_reads_156 ?_
          refine g_iconst dX6_reads_159 ?_
          refine g_aload0 dX6_reads_160 ?_
          refine g_iconst dX6_reads_161 ?_
          refine g_iconst dX6_reads_162 ?_
          refine f_cV2q (number_y hT hln hW ⟨by decide, by decide⟩ ⟨by decide, by decide⟩ hr1) rfl (by decide) rfl oY_X6_number oI_X6_number lk_X6_250 rfl dX6_reads_163 (by omega) (by omega) rfl (Or.inl rfl) (fun σ163 l163 h163 => ?_)
          have el163 := h163.1
          subst el163
          have Q1 := h163.2.1
          refine f_iast rfl (by decide) ⟨by omega, by show _ < ((67 : Nat) : Int); omega⟩ dX6_reads_166 ?_
          refine g_aload0 dX6_reads_167 ?_
          refine f_getr (r := 94) rfl (by decide) rfl rfl fl_X6_13 dX6_reads_168 ?_
          refine g_iconst dX6_reads_171 ?_
          refine g_aload0 dX6_reads_172 ?_
          refine g_iconst dX6_reads_173 ?_
          refine g_iconst dX6_reads_174 ?_
          refine f_cV2q (number_n hT hln Q1.set ⟨by decide, by decide⟩ ⟨by decide, by decide⟩ hr2) rfl (by decide) rfl oY_X6_number oI_X6_number lk_X6_250 rfl dX6_reads_175 (by omega) (by omega) rfl (Or.inl rfl) (fun σ175 l175 h175 => ?_)
          have el175 := h175.1
          subst el175
          have F2 := h175.2.1
          refine f_iast rfl (by decide) ⟨by omega, by show _ < ((67 : Nat) : Int); omega⟩ dX6_reads_178 ?_
          refine g_goto (tgt := 66) dX6_reads_179 rfl ?_
          exact reads_F (k := x.1) (pl := x.2) F2.set (by unfold rLs; simp only [hst, rLimit, hr1, hr2])
        · have hP := rLimit_p (T := σ 105) (d2 := su (su d 4 v) 5 w) (e := e2) hs2.2 ho (by simp only [rLimit, hr1, hr2])
          refine g_aload0 dX6_reads_128 ?_
          refine g_ldcwS ks_X6_256 dX6_reads_129 ?_
          refine f_cV1w (w1) rfl (by decide) rfl oY_X6_was oI_X6_was lk_X6_246 rfl dX6_reads_132 rfl (Or.inl rfl) ?_
          refine g_if_eq ⟨by decide, by decide⟩ (tgt := 145) dX6_reads_135 rfl (fun h135 => ?_) (fun h135 => absurd h135 (by decide))
          refine g_aload0 dX6_reads_145 ?_
          refine g_ldcwS ks_X6_261 dX6_reads_146 ?_
          refine f_cV1w (w2) rfl (by decide) rfl oY_X6_was oI_X6_was lk_X6_246 rfl dX6_reads_149 rfl (Or.inl rfl) ?_
          refine g_if_eq ⟨by decide, by decide⟩ (tgt := 182) dX6_reads_152 rfl (fun h152 => absurd h152 (by decide)) (fun h152 => ?_)
          refine g_aload0 dX6_reads_155 ?_
          refine f_getr (r := 94) rfl (by decide) rfl rfl fl_X6_13 dX6_reads_156 ?_
          refine g_iconst dX6_reads_159 ?_
          refine g_aload0 dX6_reads_160 ?_
          refine g_iconst dX6_reads_161 ?_
          refine g_iconst dX6_reads_162 ?_
          refine f_cV2q (number_y hT hln hW ⟨by decide, by decide⟩ ⟨by decide, by decide⟩ hr1) rfl (by decide) rfl oY_X6_number oI_X6_number lk_X6_250 rfl dX6_reads_163 (by omega) (by omega) rfl (Or.inl rfl) (fun σ163 l163 h163 => ?_)
          have el163 := h163.1
          subst el163
          have Q1 := h163.2.1
          refine f_iast rfl (by decide) ⟨by omega, by show _ < ((67 : Nat) : Int); omega⟩ dX6_reads_166 ?_
          refine g_aload0 dX6_reads_167 ?_
          refine f_getr (r := 94) rfl (by decide) rfl rfl fl_X6_13 dX6_reads_168 ?_
          refine g_iconst dX6_reads_171 ?_
          refine g_aload0 dX6_reads_172 ?_
          refine g_iconst dX6_reads_173 ?_
          refine g_iconst dX6_reads_174 ?_
          refine f_cV2q (number_y hT hln Q1.set ⟨by decide, by decide⟩ ⟨by decide, by decide⟩ hr2) rfl (by decide) rfl oY_X6_number oI_X6_number lk_X6_250 rfl dX6_reads_175 (by omega) (by omega) rfl (Or.inl rfl) (fun σ175 l175 h175 => ?_)
          have el175 := h175.1
          subst el175
          have Q2 := h175.2.1
          refine f_iast rfl (by decide) ⟨by omega, by show _ < ((67 : Nat) : Int); omega⟩ dX6_reads_178 ?_
          refine g_goto (tgt := 66) dX6_reads_179 rfl ?_
          rw [show rLs (σ 105) N f d ht p st = rLp (σ 105) N f (su (su d 4 v) 5 w) e2 ht st from by unfold rLs; simp only [hst, rLimit, hr1, hr2]]
          exact ih (su (su d 4 v) 5 w) e2 st ht _ Q2.set hP.2 hht (by have := hP.1; omega)
    · rw [bvF c2] at w2
      rw [if_neg c2] at hst
      by_cases c3 : isWB (σ 105) q e 3 = true
      · rw [bvT c3] at w3
        rw [if_pos c3] at hst
        rcases hr1 : rNum (σ 105) N 1 9 e with x | ⟨v, e1⟩
        · refine g_aload0 dX6_reads_128 ?_
          refine g_ldcwS ks_X6_256 dX6_reads_129 ?_
          refine f_cV1w (w1) rfl (by decide) rfl oY_X6_was oI_X6_was lk_X6_246 rfl dX6_reads_132 rfl (Or.inl rfl) ?_
          refine g_if_eq ⟨by decide, by decide⟩ (tgt := 145) dX6_reads_135 rfl (fun h135 => ?_) (fun h135 => absurd h135 (by decide))
          refine g_aload0 dX6_reads_145 ?_
          refine g_ldcwS ks_X6_261 dX6_reads_146 ?_
          refine f_cV1w (w2) rfl (by decide) rfl oY_X6_was oI_X6_was lk_X6_246 rfl dX6_reads_149 rfl (Or.inl rfl) ?_
          refine g_if_eq ⟨by decide, by decide⟩ (tgt := 182) dX6_reads_152 rfl (fun h152 => ?_) (fun h152 => absurd h152 (by decide))
          refine g_aload0 dX6_reads_182 ?_
          refine g_ldcwS ks_X6_263 dX6_reads_183 ?_
          refine f_cV1w (w3) rfl (by decide) rfl oY_X6_was oI_X6_was lk_X6_246 rfl dX6_reads_186 rfl (Or.inl rfl) ?_
          refine g_if_eq ⟨by decide, by decide⟩ (tgt := 237) dX6_reads_189 rfl (fun h189 => absurd h189 (by decide)) (fun h189 => ?_)
          refine g_aload0 dX6_reads_192 ?_
          refine f_getr (r := 94) rfl (by decide) rfl rfl fl_X6_13 dX6_reads_193 ?_
          refine g_bipush dX6_reads_196 (by decide) ?_
          refine g_aload0 dX6_reads_198 ?_
          refine g_iconst dX6_reads_199 ?_
          refine g_bipush dX6_reads_200 (by decide) ?_
          refine f_cV2q (number_n hT hln hW ⟨by decide, by decide⟩ ⟨by decide, by decide⟩ hr1) rfl (by decide) rfl oY_X6_number oI_X6_number lk_X6_250 rfl dX6_reads_202 (by omega) (by omega) rfl (Or.inl rfl) (fun σ202 l202 h202 => ?_)
          have el202 := h202.1
          subst el202
          have F1 := h202.2.1
          refine f_iast rfl (by decide) ⟨by omega, by show _ < ((67 : Nat) : Int); omega⟩ dX6_reads_205 ?_
          refine g_aload0 dX6_reads_206 ?_
          refine f_getr (r := 94) rfl (by decide) rfl rfl fl_X6_13 dX6_reads_207 ?_
          refine g_bipush dX6_reads_210 (by decide) ?_
          refine g_aload0 dX6_reads_212 ?_
          refine g_iconst dX6_reads_213 ?_
          refine g_bipush dX6_reads_214 (by decide) ?_
          refine f_cV2w (number_f F1.set) rfl (by decide) rfl oY_X6_number oI_X6_number lk_X6_250 rfl dX6_reads_216 rfl (Or.inl rfl) ?_
          refine f_iast rfl (by decide) ⟨by omega, by show _ < ((67 : Nat) : Int); omega⟩ dX6_reads_219 ?_
          refine g_aload0 dX6_reads_220 ?_
          refine f_getr (r := 94) rfl (by decide) rfl rfl fl_X6_13 dX6_reads_221 ?_
          refine g_bipush dX6_reads_224 (by decide) ?_
          refine g_aload0 dX6_reads_226 ?_
          refine g_iconst dX6_reads_227 ?_
          refine g_bipush dX6_reads_228 (by decide) ?_
          refine f_cV2w (number_f F1.set.set) rfl (by decide) rfl oY_X6_number oI_X6_number lk_X6_250 rfl dX6_reads_230 rfl (Or.inl rfl) ?_
          refine f_iast rfl (by decide) ⟨by omega, by show _ < ((67 : Nat) : Int); omega⟩ dX6_reads_233 ?_
          refine g_goto (tgt := 66) dX6_reads_234 rfl ?_
          exact reads_F (k := x.1) (pl := x.2) F1.set.set.set (by unfold rLs; simp only [hst, rCost, hr1])
        · rcases hr2 : rNum (σ 105) N 1 9 e1 with x | ⟨w, e2⟩
          · refine g_aload0 dX6_reads_128 ?_
            refine g_ldcwS ks_X6_256 dX6_reads_129 ?_
            refine f_cV1w (w1) rfl (by decide) rfl oY_X6_was oI_X6_was lk_X6_246 rfl dX6_reads_132 rfl (Or.inl rfl) ?_
            refine g_if_eq ⟨by decide, by decide⟩ (tgt := 145) dX6_reads_135 rfl (fun h135 => ?_) (fun h135 => absurd h135 (by decide))
            refine g_aload0 dX6_reads_145 ?_
            refine g_ldcwS ks_X6_261 dX6_reads_146 ?_
            refine f_cV1w (w2) rfl (by decide) rfl oY_X6_was oI_X6_was lk_X6_246 rfl dX6_reads_149 rfl (Or.inl rfl) ?_
            refine g_if_eq ⟨by decide, by decide⟩ (tgt := 182) dX6_reads_152 rfl (fun h152 => ?_) (fun h152 => absurd h152 (by decide))
            refine g_aload0 dX6_reads_182 ?_
            refine g_ldcwS ks_X6_263 dX6_reads_183 ?_
            refine f_cV1w (w3) rfl (by decide) rfl oY_X6_was oI_X6_was lk_X6_246 rfl dX6_reads_186 rfl (Or.inl rfl) ?_
            refine g_if_eq ⟨by decide, by decide⟩ (tgt := 237) dX6_reads_189 rfl (fun h189 => absurd h189 (by decide)) (fun h189 => ?_)
            refine g_aload0 dX6_reads_192 ?_
            refine f_getr (r := 94) rfl (by decide) rfl rfl fl_X6_13 dX6_reads_193 ?_
            refine g_bipush dX6_reads_196 (by decide) ?_
            refine g_aload0 dX6_reads_198 ?_
            refine g_iconst dX6_reads_199 ?_
            refine g_bipush dX6_reads_200 (by decide) ?_
            refine f_cV2q (number_y hT hln hW ⟨by decide, by decide⟩ ⟨by decide, by decide⟩ hr1) rfl (by decide) rfl oY_X6_number oI_X6_number lk_X6_250 rfl dX6_reads_202 (by omega) (by omega) rfl (Or.inl rfl) (fun σ202 l202 h202 => ?_)
            have el202 := h202.1
            subst el202
            have Q1 := h202.2.1
            refine f_iast rfl (by decide) ⟨by omega, by show _ < ((67 : Nat) : Int); omega⟩ dX6_reads_205 ?_
            refine g_aload0 dX6_reads_206 ?_
            refine f_getr (r := 94) rfl (by decide) rfl rfl fl_X6_13 dX6_reads_207 ?_
            refine g_bipush dX6_reads_210 (by decide) ?_
            refine g_aload0 dX6_reads_212 ?_
            refine g_iconst dX6_reads_213 ?_
            refine g_bipush dX6_reads_214 (by decide) ?_
            refine f_cV2q (number_n hT hln Q1.set ⟨by decide, by decide⟩ ⟨by decide, by decide⟩ hr2) rfl (by decide) rfl oY_X6_number oI_X6_number lk_X6_250 rfl dX6_reads_216 (by omega) (by omega) rfl (Or.inl rfl) (fun σ216 l216 h216 => ?_)
            have el216 := h216.1
            subst el216
            have F2 := h216.2.1
            refine f_iast rfl (by decide) ⟨by omega, by show _ < ((67 : Nat) : Int); omega⟩ dX6_reads_219 ?_
            refine g_aload0 dX6_reads_220 ?_
            refine f_getr (r := 94) rfl (by decide) rfl rfl fl_X6_13 dX6_reads_221 ?_
            refine g_bipush dX6_reads_224 (by decide) ?_
            refine g_aload0 dX6_reads_226 ?_
            refine g_iconst dX6_reads_227 ?_
            refine g_bipush dX6_reads_228 (by decide) ?_
            refine f_cV2w (number_f F2.set) rfl (by decide) rfl oY_X6_number oI_X6_number lk_X6_250 rfl dX6_reads_230 rfl (Or.inl rfl) ?_
            refine f_iast rfl (by decide) ⟨by omega, by show _ < ((67 : Nat) : Int); omega⟩ dX6_reads_233 ?_
            refine g_goto (tgt := 66) dX6_reads_234 rfl ?_
            exact reads_F (k := x.1) (pl := x.2) F2.set.set (by unfold rLs; simp only [hst, rCost, hr1, hr2])
          · rcases hr3 : rNum (σ 105) N 0 9 e2 with x | ⟨u, e3⟩
            · refine g_aload0 dX6_reads_128 ?_
              refine g_ldcwS ks_X6_256 dX6_reads_129 ?_
              refine f_cV1w (w1) rfl (by decide) rfl oY_X6_was oI_X6_was lk_X6_246 rfl dX6_reads_132 rfl (Or.inl rfl) ?_
              refine g_if_eq ⟨by decide, by decide⟩ (tgt := 145) dX6_reads_135 rfl (fun h135 => ?_) (fun h135 => absurd h135 (by decide))
              refine g_aload0 dX6_reads_145 ?_
              refine g_ldcwS ks_X6_261 dX6_reads_146 ?_
              refine f_cV1w (w2) rfl (by decide) rfl oY_X6_was oI_X6_was lk_X6_246 rfl dX6_reads_149 rfl (Or.inl rfl) ?_
              refine g_if_eq ⟨by decide, by decide⟩ (tgt := 182) dX6_reads_152 rfl (fun h152 => ?_) (fun h152 => absurd h152 (by decide))
              refine g_aload0 dX6_reads_182 ?_
              refine g_ldcwS ks_X6_263 dX6_reads_183 ?_
              refine f_cV1w (w3) rfl (by decide) rfl oY_X6_was oI_X6_was lk_X6_246 rfl dX6_reads_186 rfl (Or.inl rfl) ?_
              refine g_if_eq ⟨by decide, by decide⟩ (tgt := 237) dX6_reads_189 rfl (fun h189 => absurd h189 (by decide)) (fun h189 => ?_)
              refine g_aload0 dX6_reads_192 ?_
              refine f_getr (r := 94) rfl (by decide) rfl rfl fl_X6_13 dX6_reads_193 ?_
              refine g_bipush dX6_reads_196 (by decide) ?_
              refine g_aload0 dX6_reads_198 ?_
              refine g_iconst dX6_reads_199 ?_
              refine g_bipush dX6_reads_200 (by decide) ?_
              refine f_cV2q (number_y hT hln hW ⟨by decide, by decide⟩ ⟨by decide, by decide⟩ hr1) rfl (by decide) rfl oY_X6_number oI_X6_number lk_X6_250 rfl dX6_reads_202 (by omega) (by omega) rfl (Or.inl rfl) (fun σ202 l202 h202 => ?_)
              have el202 := h202.1
              subst el202
              have Q1 := h202.2.1
              refine f_iast rfl (by decide) ⟨by omega, by show _ < ((67 : Nat) : Int); omega⟩ dX6_reads_205 ?_
              refine g_aload0 dX6_reads_206 ?_
              refine f_getr (r := 94) rfl (by decide) rfl rfl fl_X6_13 dX6_reads_207 ?_
              refine g_bipush dX6_reads_210 (by decide) ?_
              refine g_aload0 dX6_reads_212 ?_
              refine g_iconst dX6_reads_213 ?_
              refine g_bipush dX6_reads_214 (by decide) ?_
              refine f_cV2q (number_y hT hln Q1.set ⟨by decide, by decide⟩ ⟨by decide, by decide⟩ hr2) rfl (by decide) rfl oY_X6_number oI_X6_number lk_X6_250 rfl dX6_reads_216 (by omega) (by omega) rfl (Or.inl rfl) (fun σ216 l216 h216 => ?_)
              have el216 := h216.1
              subst el216
              have Q2 := h216.2.1
              refine f_iast rfl (by decide) ⟨by omega, by show _ < ((67 : Nat) : Int); omega⟩ dX6_reads_219 ?_
              refine g_aload0 dX6_reads_220 ?_
              refine f_getr (r := 94) rfl (by decide) rfl rfl fl_X6_13 dX6_reads_221 ?_
              refine g_bipush dX6_reads_224 (by decide) ?_
              refine g_aload0 dX6_reads_226 ?_
              refine g_iconst dX6_reads_227 ?_
              refine g_bipush dX6_reads_228 (by decide) ?_
              refine f_cV2q (number_n hT hln Q2.set ⟨by decide, by decide⟩ ⟨by decide, by decide⟩ hr3) rfl (by decide) rfl oY_X6_number oI_X6_number lk_X6_250 rfl dX6_reads_230 (by omega) (by omega) rfl (Or.inl rfl) (fun σ230 l230 h230 => ?_)
              have el230 := h230.1
              subst el230
              have F3 := h230.2.1
              refine f_iast rfl (by decide) ⟨by omega, by show _ < ((67 : Nat) : Int); omega⟩ dX6_reads_233 ?_
              refine g_goto (tgt := 66) dX6_reads_234 rfl ?_
              exact reads_F (k := x.1) (pl := x.2) F3.set (by unfold rLs; simp only [hst, rCost, hr1, hr2, hr3])
            · have hP := rCost_p (T := σ 105) (d2 := su (su (su d 6 v) 7 w) 8 u) (e := e3) hs2.2 ho (by simp only [rCost, hr1, hr2, hr3])
              refine g_aload0 dX6_reads_128 ?_
              refine g_ldcwS ks_X6_256 dX6_reads_129 ?_
              refine f_cV1w (w1) rfl (by decide) rfl oY_X6_was oI_X6_was lk_X6_246 rfl dX6_reads_132 rfl (Or.inl rfl) ?_
              refine g_if_eq ⟨by decide, by decide⟩ (tgt := 145) dX6_reads_135 rfl (fun h135 => ?_) (fun h135 => absurd h135 (by decide))
              refine g_aload0 dX6_reads_145 ?_
              refine g_ldcwS ks_X6_261 dX6_reads_146 ?_
              refine f_cV1w (w2) rfl (by decide) rfl oY_X6_was oI_X6_was lk_X6_246 rfl dX6_reads_149 rfl (Or.inl rfl) ?_
              refine g_if_eq ⟨by decide, by decide⟩ (tgt := 182) dX6_reads_152 rfl (fun h152 => ?_) (fun h152 => absurd h152 (by decide))
              refine g_aload0 dX6_reads_182 ?_
              refine g_ldcwS ks_X6_263 dX6_reads_183 ?_
              refine f_cV1w (w3) rfl (by decide) rfl oY_X6_was oI_X6_was lk_X6_246 rfl dX6_reads_186 rfl (Or.inl rfl) ?_
              refine g_if_eq ⟨by decide, by decide⟩ (tgt := 237) dX6_reads_189 rfl (fun h189 => absurd h189 (by decide)) (fun h189 => ?_)
              refine g_aload0 dX6_reads_192 ?_
              refine f_getr (r := 94) rfl (by decide) rfl rfl fl_X6_13 dX6_reads_193 ?_
              refine g_bipush dX6_reads_196 (by decide) ?_
              refine g_aload0 dX6_reads_198 ?_
              refine g_iconst dX6_reads_199 ?_
              refine g_bipush dX6_reads_200 (by decide) ?_
              refine f_cV2q (number_y hT hln hW ⟨by decide, by decide⟩ ⟨by decide, by decide⟩ hr1) rfl (by decide) rfl oY_X6_number oI_X6_number lk_X6_250 rfl dX6_reads_202 (by omega) (by omega) rfl (Or.inl rfl) (fun σ202 l202 h202 => ?_)
              have el202 := h202.1
              subst el202
              have Q1 := h202.2.1
              refine f_iast rfl (by decide) ⟨by omega, by show _ < ((67 : Nat) : Int); omega⟩ dX6_reads_205 ?_
              refine g_aload0 dX6_reads_206 ?_
              refine f_getr (r := 94) rfl (by decide) rfl rfl fl_X6_13 dX6_reads_207 ?_
              refine g_bipush dX6_reads_210 (by decide) ?_
              refine g_aload0 dX6_reads_212 ?_
              refine g_iconst dX6_reads_213 ?_
              refine g_bipush dX6_reads_214 (by decide) ?_
              refine f_cV2q (number_y hT hln Q1.set ⟨by decide, by decide⟩ ⟨by decide, by decide⟩ hr2) rfl (by decide) rfl oY_X6_number oI_X6_number lk_X6_250 rfl dX6_reads_216 (by omega) (by omega) rfl (Or.inl rfl) (fun σ216 l216 h216 => ?_)
              have el216 := h216.1
              subst el216
              have Q2 := h216.2.1
              refine f_iast rfl (by decide) ⟨by omega, by show _ < ((67 : Nat) : Int); omega⟩ dX6_reads_219 ?_
              refine g_aload0 dX6_reads_220 ?_
              refine f_getr (r := 94) rfl (by decide) rfl rfl fl_X6_13 dX6_reads_221 ?_
              refine g_bipush dX6_reads_224 (by decide) ?_
              refine g_aload0 dX6_reads_226 ?_
              refine g_iconst dX6_reads_227 ?_
              refine g_bipush dX6_reads_228 (by decide) ?_
              refine f_cV2q (number_y hT hln Q2.set ⟨by decide, by decide⟩ ⟨by decide, by decide⟩ hr3) rfl (by decide) rfl oY_X6_number oI_X6_number lk_X6_250 rfl dX6_reads_230 (by omega) (by omega) rfl (Or.inl rfl) (fun σ230 l230 h230 => ?_)
              have el230 := h230.1
              subst el230
              have Q3 := h230.2.1
              refine f_iast rfl (by decide) ⟨by omega, by show _ < ((67 : Nat) : Int); omega⟩ dX6_reads_233 ?_
              refine g_goto (tgt := 66) dX6_reads_234 rfl ?_
              rw [show rLs (σ 105) N f d ht p st = rLp (σ 105) N f (su (su (su d 6 v) 7 w) 8 u) e3 ht st from by unfold rLs; simp only [hst, rCost, hr1, hr2, hr3]]
              exact ih (su (su (su d 6 v) 7 w) 8 u) e3 st ht _ Q3.set hP.2 hht (by have := hP.1; omega)
      · rw [bvF c3] at w3
        rw [if_neg c3] at hst
        by_cases c4 : isWB (σ 105) q e 4 = true
        · rw [bvT c4] at w4
          rw [if_pos c4] at hst
          by_cases ch : ht = 0
          · have hrt : rTune (σ 105) N d ht q e = rTu (σ 105) N 400 d e 0 (fun _ => 0) true := by unfold rTune; rw [if_neg (fun z => z ch)]
            have htm := readsTune_m (g := g) (l := l) hT hln hW ho (by omega)
            rcases hr : rTu (σ 105) N 400 d e 0 (fun _ => 0) true with x | ⟨d2, e2⟩
            · refine g_aload0 dX6_reads_128 ?_
              refine g_ldcwS ks_X6_256 dX6_reads_129 ?_
              refine f_cV1w (w1) rfl (by decide) rfl oY_X6_was oI_X6_was lk_X6_246 rfl dX6_reads_132 rfl (Or.inl rfl) ?_
              refine g_if_eq ⟨by decide, by decide⟩ (tgt := 145) dX6_reads_135 rfl (fun h135 => ?_) (fun h135 => absurd h135 (by decide))
              refine g_aload0 dX6_reads_145 ?_
              refine g_ldcwS ks_X6_261 dX6_reads_146 ?_
              refine f_cV1w (w2) rfl (by decide) rfl oY_X6_was oI_X6_was lk_X6_246 rfl dX6_reads_149 rfl (Or.inl rfl) ?_
              refine g_if_eq ⟨by decide, by decide⟩ (tgt := 182) dX6_reads_152 rfl (fun h152 => ?_) (fun h152 => absurd h152 (by decide))
              refine g_aload0 dX6_reads_182 ?_
              refine g_ldcwS ks_X6_263 dX6_reads_183 ?_
              refine f_cV1w (w3) rfl (by decide) rfl oY_X6_was oI_X6_was lk_X6_246 rfl dX6_reads_186 rfl (Or.inl rfl) ?_
              refine g_if_eq ⟨by decide, by decide⟩ (tgt := 237) dX6_reads_189 rfl (fun h189 => ?_) (fun h189 => absurd h189 (by decide))
              refine g_aload0 dX6_reads_237 ?_
              refine g_ldcwS ks_X6_265 dX6_reads_238 ?_
              refine f_cV1w (w4) rfl (by decide) rfl oY_X6_was oI_X6_was lk_X6_246 rfl dX6_reads_241 rfl (Or.inl rfl) ?_
              refine g_if_eq ⟨by decide, by decide⟩ (tgt := 269) dX6_reads_244 rfl (fun h244 => absurd h244 (by decide)) (fun h244 => ?_)
              refine g_iload1 dX6_reads_247 ?_
              refine g_if_eq ⟨by omega, by omega⟩ (tgt := 260) dX6_reads_248 rfl (fun h248 => ?_) (fun h248 => absurd h248 (by omega))
              refine g_iconst dX6_reads_260 ?_
              refine g_istore1 dX6_reads_261 rfl (by decide) ?_
              refine g_aload0 dX6_reads_262 ?_
              refine f_cV0m ((Fn.mono htm (fun o ρ l' k => ⟨k.2.1, k.1, by have k2 := k.2.2; rw [hr] at k2; exact k2⟩) : Fu g zX6_readsTune 0 0 [.ref 92] τ l (fun ρ l' => l' = l ∧ TA σ N st x ρ))) rfl (by decide) rfl oY_X6_readsTune oI_X6_readsTune lk_X6_267 rfl dX6_reads_263 (by omega) (by omega) rfl (Or.inl rfl) (fun σ263 l263 h263 => ?_)
              have el263 := h263.1
              subst el263
              have K1 := h263.2
              refine g_goto (tgt := 66) dX6_reads_266 rfl ?_
              exact reads_T hT hln K1 (by unfold rLs; simp only [hst, hrt, hr])
            · have hP := rTu_p 400 d e 0 (fun _ => 0) true d2 e2 hs2.2 hr
              refine g_aload0 dX6_reads_128 ?_
              refine g_ldcwS ks_X6_256 dX6_reads_129 ?_
              refine f_cV1w (w1) rfl (by decide) rfl oY_X6_was oI_X6_was lk_X6_246 rfl dX6_reads_132 rfl (Or.inl rfl) ?_
              refine g_if_eq ⟨by decide, by decide⟩ (tgt := 145) dX6_reads_135 rfl (fun h135 => ?_) (fun h135 => absurd h135 (by decide))
              refine g_aload0 dX6_reads_145 ?_
              refine g_ldcwS ks_X6_261 dX6_reads_146 ?_
              refine f_cV1w (w2) rfl (by decide) rfl oY_X6_was oI_X6_was lk_X6_246 rfl dX6_reads_149 rfl (Or.inl rfl) ?_
              refine g_if_eq ⟨by decide, by decide⟩ (tgt := 182) dX6_reads_152 rfl (fun h152 => ?_) (fun h152 => absurd h152 (by decide))
              refine g_aload0 dX6_reads_182 ?_
              refine g_ldcwS ks_X6_263 dX6_reads_183 ?_
              refine f_cV1w (w3) rfl (by decide) rfl oY_X6_was oI_X6_was lk_X6_246 rfl dX6_reads_186 rfl (Or.inl rfl) ?_
              refine g_if_eq ⟨by decide, by decide⟩ (tgt := 237) dX6_reads_189 rfl (fun h189 => ?_) (fun h189 => absurd h189 (by decide))
              refine g_aload0 dX6_reads_237 ?_
              refine g_ldcwS ks_X6_265 dX6_reads_238 ?_
              refine f_cV1w (w4) rfl (by decide) rfl oY_X6_was oI_X6_was lk_X6_246 rfl dX6_reads_241 rfl (Or.inl rfl) ?_
              refine g_if_eq ⟨by decide, by decide⟩ (tgt := 269) dX6_reads_244 rfl (fun h244 => absurd h244 (by decide)) (fun h244 => ?_)
              refine g_iload1 dX6_reads_247 ?_
              refine g_if_eq ⟨by omega, by omega⟩ (tgt := 260) dX6_reads_248 rfl (fun h248 => ?_) (fun h248 => absurd h248 (by omega))
              refine g_iconst dX6_reads_260 ?_
              refine g_istore1 dX6_reads_261 rfl (by decide) ?_
              refine g_aload0 dX6_reads_262 ?_
              refine f_cV0m ((Fn.mono htm (fun o ρ l' k => ⟨k.2.1, k.1, by have k2 := k.2.2; rw [hr] at k2; exact k2⟩) : Fu g zX6_readsTune 0 0 [.ref 92] τ l (fun ρ l' => l' = l ∧ TB2 σ N st (d2, e2) ρ))) rfl (by decide) rfl oY_X6_readsTune oI_X6_readsTune lk_X6_267 rfl dX6_reads_263 (by omega) (by omega) rfl (Or.inl rfl) (fun σ263 l263 h263 => ?_)
              have el263 := h263.1
              subst el263
              have K1 := h263.2
              refine g_goto (tgt := 66) dX6_reads_266 rfl ?_
              rw [show rLs (σ 105) N f d ht p st = rLp (σ 105) N f d2 e2 1 st from by unfold rLs; simp only [hst, hrt, hr]]
              exact ih d2 e2 st 1 _ K1.1 K1.2 (Or.inr rfl) (by omega)
          · have hrt : rTune (σ 105) N d ht q e = .inl (3, q) := by unfold rTune; rw [if_pos ch]
            have F1 := hW.fail (k := 3) (pl := q) ⟨by decide, by decide⟩
            refine g_aload0 dX6_reads_128 ?_
            refine g_ldcwS ks_X6_256 dX6_reads_129 ?_
            refine f_cV1w (w1) rfl (by decide) rfl oY_X6_was oI_X6_was lk_X6_246 rfl dX6_reads_132 rfl (Or.inl rfl) ?_
            refine g_if_eq ⟨by decide, by decide⟩ (tgt := 145) dX6_reads_135 rfl (fun h135 => ?_) (fun h135 => absurd h135 (by decide))
            refine g_aload0 dX6_reads_145 ?_
            refine g_ldcwS ks_X6_261 dX6_reads_146 ?_
            refine f_cV1w (w2) rfl (by decide) rfl oY_X6_was oI_X6_was lk_X6_246 rfl dX6_reads_149 rfl (Or.inl rfl) ?_
            refine g_if_eq ⟨by decide, by decide⟩ (tgt := 182) dX6_reads_152 rfl (fun h152 => ?_) (fun h152 => absurd h152 (by decide))
            refine g_aload0 dX6_reads_182 ?_
            refine g_ldcwS ks_X6_263 dX6_reads_183 ?_
            refine f_cV1w (w3) rfl (by decide) rfl oY_X6_was oI_X6_was lk_X6_246 rfl dX6_reads_186 rfl (Or.inl rfl) ?_
            refine g_if_eq ⟨by decide, by decide⟩ (tgt := 237) dX6_reads_189 rfl (fun h189 => ?_) (fun h189 => absurd h189 (by decide))
            refine g_aload0 dX6_reads_237 ?_
            refine g_ldcwS ks_X6_265 dX6_reads_238 ?_
            refine f_cV1w (w4) rfl (by decide) rfl oY_X6_was oI_X6_was lk_X6_246 rfl dX6_reads_241 rfl (Or.inl rfl) ?_
            refine g_if_eq ⟨by decide, by decide⟩ (tgt := 269) dX6_reads_244 rfl (fun h244 => absurd h244 (by decide)) (fun h244 => ?_)
            refine g_iload1 dX6_reads_247 ?_
            refine g_if_eq ⟨by omega, by omega⟩ (tgt := 260) dX6_reads_248 rfl (fun h248 => absurd h248 (by omega)) (fun h248 => ?_)
            refine g_aload0 dX6_reads_251 ?_
            refine g_iconst dX6_reads_252 ?_
            refine g_aload0 dX6_reads_253 ?_
            refine f_geti (J := 17) rfl (by decide) rfl rfl fl_X6_205 dX6_reads_254 ?_
            rw [hwf]
            refine f_cV2d (fails_0 hW.2.1) rfl (by decide) rfl oY_X6_fails oI_X6_fails lk_X6_237 rfl dX6_reads_257 rfl (Or.inl rfl) ?_
            refine g_iconst dX6_reads_260 ?_
            refine g_istore1 dX6_reads_261 rfl (by decide) ?_
            refine g_aload0 dX6_reads_262 ?_
            refine f_cV0d (readsTune_f F1) rfl (by decide) rfl oY_X6_readsTune oI_X6_readsTune lk_X6_267 rfl dX6_reads_263 rfl (Or.inl rfl) ?_
            refine g_goto (tgt := 66) dX6_reads_266 rfl ?_
            exact reads_F F1 (by unfold rLs; simp only [hst, hrt])
        · rw [bvF c4] at w4
          rw [if_neg c4] at hst
          have F1 := hW.fail (k := 1) (pl := q) ⟨by decide, by decide⟩
          refine g_aload0 dX6_reads_128 ?_
          refine g_ldcwS ks_X6_256 dX6_reads_129 ?_
          refine f_cV1w (w1) rfl (by decide) rfl oY_X6_was oI_X6_was lk_X6_246 rfl dX6_reads_132 rfl (Or.inl rfl) ?_
          refine g_if_eq ⟨by decide, by decide⟩ (tgt := 145) dX6_reads_135 rfl (fun h135 => ?_) (fun h135 => absurd h135 (by decide))
          refine g_aload0 dX6_reads_145 ?_
          refine g_ldcwS ks_X6_261 dX6_reads_146 ?_
          refine f_cV1w (w2) rfl (by decide) rfl oY_X6_was oI_X6_was lk_X6_246 rfl dX6_reads_149 rfl (Or.inl rfl) ?_
          refine g_if_eq ⟨by decide, by decide⟩ (tgt := 182) dX6_reads_152 rfl (fun h152 => ?_) (fun h152 => absurd h152 (by decide))
          refine g_aload0 dX6_reads_182 ?_
          refine g_ldcwS ks_X6_263 dX6_reads_183 ?_
          refine f_cV1w (w3) rfl (by decide) rfl oY_X6_was oI_X6_was lk_X6_246 rfl dX6_reads_186 rfl (Or.inl rfl) ?_
          refine g_if_eq ⟨by decide, by decide⟩ (tgt := 237) dX6_reads_189 rfl (fun h189 => ?_) (fun h189 => absurd h189 (by decide))
          refine g_aload0 dX6_reads_237 ?_
          refine g_ldcwS ks_X6_265 dX6_reads_238 ?_
          refine f_cV1w (w4) rfl (by decide) rfl oY_X6_was oI_X6_was lk_X6_246 rfl dX6_reads_241 rfl (Or.inl rfl) ?_
          refine g_if_eq ⟨by decide, by decide⟩ (tgt := 269) dX6_reads_244 rfl (fun h244 => ?_) (fun h244 => absurd h244 (by decide))
          refine g_aload0 dX6_reads_269 ?_
          refine g_iconst dX6_reads_270 ?_
          refine g_aload0 dX6_reads_271 ?_
          refine f_geti (J := 17) rfl (by decide) rfl rfl fl_X6_205 dX6_reads_272 ?_
          rw [hwf]
          refine f_cV2d (fails_0 hW.2.1) rfl (by decide) rfl oY_X6_fails oI_X6_fails lk_X6_237 rfl dX6_reads_275 rfl (Or.inl rfl) ?_
          refine g_goto (tgt := 66) dX6_reads_278 rfl ?_
          exact reads_F F1 (by unfold rLs; simp only [hst])
theorem reads_l {N : Nat} (hT : TX (σ 105) N) (hln : σ 92 15 = (N : Int)) : ∀ (f : Nat) (d : Int → Int) (p : Nat) (st ht : Int) (τ : sT), PSm σ N st (d, p) τ → SOK 0 d → (ht = 0 ∨ ht = 1) → N - p ≤ f → FW g zX6_reads 0 0 (Rv l (RdA σ) (RdB σ N) (rLp (σ 105) N f d p ht st)) 66 [some (.ref 92), some (iv ht)] [] τ l := by
  intro f
  induction f with
  | zero =>
    intro d p st ht τ h ho hht hf
    have hN := hT.1
    have hpN : p ≤ N := h.2.2.2.2.2.2
    have hs := sk_le (Q := isSp) (T := σ 105) hpN
    have hs1 : sgn (σ 105) N (sk isSp (σ 105) N p) = -1 := by unfold sgn; rw [if_neg (by omega)]
    have hlook := looks_m (g := g) (l := l) hT (h.ln hln) h.tx h.2.2.2.2.1 hpN
    rw [hs1] at hlook
    refine g_aload0 dX6_reads_66 ?_
    refine f_cV0w (fine_y h) rfl (by decide) rfl oY_X6_isFine oI_X6_isFine lk_X6_230 rfl dX6_reads_67 rfl (Or.inl rfl) ?_
    refine g_if_eq ⟨by decide, by decide⟩ (tgt := 281) dX6_reads_70 rfl (fun h70 => absurd h70 (by decide)) (fun h70 => ?_)
    refine g_aload0 dX6_reads_73 ?_
    refine f_cV0x (hlook) rfl (by decide) rfl oY_X6_looks oI_X6_looks lk_X6_216 rfl dX6_reads_74 rfl (Or.inl rfl) ?_
    refine g_iconst dX6_reads_77 ?_
    refine g_icmp_eq ⟨by decide, by decide⟩ ⟨by decide, by decide⟩ (tgt := 281) dX6_reads_78 rfl (fun h78 => ?_) (fun h78 => absurd h78 (by decide))
    refine g_return rfl dX6_reads_281 ?_
    exact Rv.yes rfl ⟨st, _, h.look hs.2, ho⟩
  | succ f ih =>
    intro d p st ht τ h ho hht hf
    have hN := hT.1
    have hpN : p ≤ N := h.2.2.2.2.2.2
    have hs := sk_le (Q := isSp) (T := σ 105) hpN
    obtain ⟨q, hq⟩ : ∃ q, q = sk isSp (σ 105) N p := ⟨_, rfl⟩
    have hlook := looks_m (g := g) (l := l) hT (h.ln hln) h.tx h.2.2.2.2.1 hpN
    rw [← hq] at hlook hs
    have hK := h.look (q := q) hs.2
    obtain ⟨ρ, hρ⟩ : ∃ ρ : sT, ρ = up (up τ 92 16 (q : Int)) 92 17 (q : Int) := ⟨_, rfl⟩
    rw [← hρ] at hK hlook
    have hfr : ρ 92 17 = (q : Int) := by rw [hρ, up_eq]
    have hsg := sgn_rng (p := q) hT
    have hby := byteAt_m (g := g) (l := l) hT (hK.ln hln) hK.tx (p := q) (by omega)
    obtain ⟨c, hc⟩ : ∃ c, c = sgn (σ 105) N q := ⟨_, rfl⟩
    rw [← hc] at hlook hsg hby
    have hqN : c ≠ -1 → q < N := fun z => sgn_lt (by rw [← hc]; exact z)
    have hru : rLp (σ 105) N (f + 1) d p ht st = if N ≤ q then .inr d else if c = 59 then rLs (σ 105) N f d ht (q + 1) (st + 1) else .inl (1, q, st) := by rw [hc, hq]; rfl
    rw [hru]
    by_cases c1 : N ≤ q
    · have hc1 : c = -1 := by rw [hc]; unfold sgn; rw [if_neg (by omega)]
      rw [if_pos c1]
      refine g_aload0 dX6_reads_66 ?_
      refine f_cV0w (fine_y h) rfl (by decide) rfl oY_X6_isFine oI_X6_isFine lk_X6_230 rfl dX6_reads_67 rfl (Or.inl rfl) ?_
      refine g_if_eq ⟨by decide, by decide⟩ (tgt := 281) dX6_reads_70 rfl (fun h70 => absurd h70 (by decide)) (fun h70 => ?_)
      refine g_aload0 dX6_reads_73 ?_
      refine f_cV0x (hlook) rfl (by decide) rfl oY_X6_looks oI_X6_looks lk_X6_216 rfl dX6_reads_74 rfl (Or.inl rfl) ?_
      refine g_iconst dX6_reads_77 ?_
      refine g_icmp_eq ⟨by omega, by omega⟩ ⟨by decide, by decide⟩ (tgt := 281) dX6_reads_78 rfl (fun h78 => ?_) (fun h78 => absurd h78 (by omega))
      refine g_return rfl dX6_reads_281 ?_
      exact Rv.yes rfl ⟨st, _, hK, ho⟩
    · have hcT : c = σ 105 (q : Int) := by rw [hc, sgn_at (by omega)]
      have hc0 : 0 ≤ c := by
        have := hT.2 q (by omega)
        omega
      rw [if_neg c1]
      by_cases c59 : c = 59
      · rw [if_pos c59]
        have hK2 := (hK.at1 (by omega)).stm
        have hq2 := sk_le (Q := isSp) (T := σ 105) (show q + 1 ≤ N by omega)
        have hq3 := sk_le (Q := isLt) (T := σ 105) hq2.2
        have hwd := word_m (g := g) (l := l) hT (hK2.ln hln) hK2.tx hK2.2.2.2.2.1 (show q + 1 ≤ N by omega)
        refine g_aload0 dX6_reads_66 ?_
        refine f_cV0w (fine_y h) rfl (by decide) rfl oY_X6_isFine oI_X6_isFine lk_X6_230 rfl dX6_reads_67 rfl (Or.inl rfl) ?_
        refine g_if_eq ⟨by decide, by decide⟩ (tgt := 281) dX6_reads_70 rfl (fun h70 => absurd h70 (by decide)) (fun h70 => ?_)
        refine g_aload0 dX6_reads_73 ?_
        refine f_cV0x (hlook) rfl (by decide) rfl oY_X6_looks oI_X6_looks lk_X6_216 rfl dX6_reads_74 rfl (Or.inl rfl) ?_
        refine g_iconst dX6_reads_77 ?_
        refine g_icmp_eq ⟨by omega, by omega⟩ ⟨by decide, by decide⟩ (tgt := 281) dX6_reads_78 rfl (fun h78 => absurd h78 (by omega)) (fun h78 => ?_)
        refine g_aload0 dX6_reads_81 ?_
        refine g_aload0 dX6_reads_82 ?_
        refine f_geti (J := 16) rfl (by decide) rfl rfl fl_X6_199 dX6_reads_83 ?_
        rw [hK.2.2.2.2.1]
        refine f_cV1w (hby) rfl (by decide) rfl oY_X6_byteAt oI_X6_byteAt lk_X6_202 rfl dX6_reads_86 rfl (Or.inl rfl) ?_
        refine g_bipush dX6_reads_89 (by decide) ?_
        refine g_icmp_eq ⟨by omega, by omega⟩ ⟨by decide, by decide⟩ (tgt := 104) dX6_reads_91 rfl (fun h91 => ?_) (fun h91 => absurd h91 (by omega))
        refine g_aload0 dX6_reads_104 ?_
        refine g_dup rfl dX6_reads_105 ?_
        refine f_geti (J := 16) rfl (by decide) rfl rfl fl_X6_199 dX6_reads_106 ?_
        rw [hK.2.2.2.2.1]
        refine g_iconst dX6_reads_109 ?_
        refine g_iadd dX6_reads_110 ?_
        refine f_puti (J := 16) rfl (by decide) rfl rfl fl_X6_199 rfl (fun _ _ _ h => by cases h; rfl) dX6_reads_111 ?_
        refine g_aload0 dX6_reads_114 ?_
        refine g_dup rfl dX6_reads_115 ?_
        refine f_geti (J := 22) rfl (by decide) rfl rfl fl_X6_253 dX6_reads_116 ?_
        rw [up_ne (fun z => by omega), hK.2.2.2.1]
        refine g_iconst dX6_reads_119 ?_
        refine g_iadd dX6_reads_120 ?_
        refine f_puti (J := 22) rfl (by decide) rfl rfl fl_X6_253 rfl (fun _ _ _ h => by cases h; rfl) dX6_reads_121 ?_
        refine g_aload0 dX6_reads_124 ?_
        refine f_cV0d (hwd) rfl (by decide) rfl oY_X6_word oI_X6_word lk_X6_241 rfl dX6_reads_125 rfl (Or.inl rfl) ?_
        exact reads_s hT hln ih (by omega) (by omega) (by omega) rfl rfl (hK2.word hq3.2) ho hht (by rw [up_ne (fun z => by omega), up_eq])
      · rw [if_neg c59]
        have hF := hK.fail (k := 1) (pl := q) ⟨by decide, by decide⟩
        refine g_aload0 dX6_reads_66 ?_
        refine f_cV0w (fine_y h) rfl (by decide) rfl oY_X6_isFine oI_X6_isFine lk_X6_230 rfl dX6_reads_67 rfl (Or.inl rfl) ?_
        refine g_if_eq ⟨by decide, by decide⟩ (tgt := 281) dX6_reads_70 rfl (fun h70 => absurd h70 (by decide)) (fun h70 => ?_)
        refine g_aload0 dX6_reads_73 ?_
        refine f_cV0x (hlook) rfl (by decide) rfl oY_X6_looks oI_X6_looks lk_X6_216 rfl dX6_reads_74 rfl (Or.inl rfl) ?_
        refine g_iconst dX6_reads_77 ?_
        refine g_icmp_eq ⟨by omega, by omega⟩ ⟨by decide, by decide⟩ (tgt := 281) dX6_reads_78 rfl (fun h78 => absurd h78 (by omega)) (fun h78 => ?_)
        refine g_aload0 dX6_reads_81 ?_
        refine g_aload0 dX6_reads_82 ?_
        refine f_geti (J := 16) rfl (by decide) rfl rfl fl_X6_199 dX6_reads_83 ?_
        rw [hK.2.2.2.2.1]
        refine f_cV1w (hby) rfl (by decide) rfl oY_X6_byteAt oI_X6_byteAt lk_X6_202 rfl dX6_reads_86 rfl (Or.inl rfl) ?_
        refine g_bipush dX6_reads_89 (by decide) ?_
        refine g_icmp_eq ⟨by omega, by omega⟩ ⟨by decide, by decide⟩ (tgt := 104) dX6_reads_91 rfl (fun h91 => absurd h91 (by omega)) (fun h91 => ?_)
        refine g_aload0 dX6_reads_94 ?_
        refine g_iconst dX6_reads_95 ?_
        refine g_aload0 dX6_reads_96 ?_
        refine f_geti (J := 17) rfl (by decide) rfl rfl fl_X6_205 dX6_reads_97 ?_
        rw [hfr]
        refine f_cV2d (fails_0 hK.2.1) rfl (by decide) rfl oY_X6_fails oI_X6_fails lk_X6_237 rfl dX6_reads_100 rfl (Or.inl rfl) ?_
        refine g_return rfl dX6_reads_103 ?_
        exact Rv.no rfl hF
theorem reads_m {N : Nat} (hT : TX (σ 105) N) (hln : σ 92 15 = (N : Int)) (h : PSm σ N 0 (bgR 0 0 0, 0) τ) : Fn g zX6_reads 0 0 [.ref 92] τ l (Rv l (RdA σ) (RdB σ N) (rAll (σ 105) N)) := by
  have hN := hT.1
  have hq2 := sk_le (Q := isSp) (T := σ 105) (Nat.zero_le N)
  have hq3 := sk_le (Q := isLt) (T := σ 105) hq2.2
  have hwd := word_m (g := g) (l := l) hT (h.ln hln) h.tx h.2.2.2.2.1 (Nat.zero_le N)
  obtain ⟨q, hq⟩ : ∃ q, q = sk isSp (σ 105) N 0 := ⟨_, rfl⟩
  rw [← hq] at hq2 hq3 hwd
  obtain ⟨e, he⟩ : ∃ e, e = sk isLt (σ 105) N q := ⟨_, rfl⟩
  rw [← he] at hq3 hwd
  have hW := h.word (q := q) hq3.2
  obtain ⟨ω, hω⟩ : ∃ ω : sT, ω = up (up τ 92 17 (q : Int)) 92 16 (e : Int) := ⟨_, rfl⟩
  rw [← hω] at hwd hW
  have hwf : ω 92 17 = (q : Int) := by rw [hω, up_ne (fun z => by omega), up_eq]
  have hw := was_m (g := g) (l := l) hT hW.tx hW.2.2.2.2.1 hwf hq3 (i := 0) (by decide)
  have hst : rWh (σ 105) N = if isWB (σ 105) q e 0 = true then (match rNum (σ 105) N 200 600 e with
      | .inl e => .inl e
      | .inr (v, p1) => match rNum (σ 105) N 5 20 p1 with
        | .inl e => .inl e
        | .inr (w, p2) => match rNum (σ 105) N 5 49 p2 with
          | .inl e => .inl e
          | .inr (u, p3) => .inr (bgR v w u, p3))
    else .inl (1, q) := by rw [he, hq]; rfl
  refine Fn.of [some (.ref 92), none] rfl (by decide) (Nat.le_of_ble_eq_true rfl) rfl ?_
  by_cases c0 : isWB (σ 105) q e 0 = true
  · rw [bvT c0] at hw
    rw [if_pos c0] at hst
    rcases hr1 : rNum (σ 105) N 200 600 e with x | ⟨v, e1⟩
    · refine g_aload0 dX6_reads_0 ?_
      refine f_cV0d (hwd) rfl (by decide) rfl oY_X6_word oI_X6_word lk_X6_241 rfl dX6_reads_1 rfl (Or.inl rfl) ?_
      refine g_aload0 dX6_reads_4 ?_
      refine g_ldcS ks_X6_244 dX6_reads_5 ?_
      refine f_cV1w (hw) rfl (by decide) rfl oY_X6_was oI_X6_was lk_X6_246 rfl dX6_reads_7 rfl (Or.inl rfl) ?_
      refine g_if_ne ⟨by decide, by decide⟩ (tgt := 22) dX6_reads_10 rfl (fun h10 => ?_) (fun h10 => absurd h10 (by decide))
      refine g_aload0 dX6_reads_22 ?_
      refine f_getr (r := 94) rfl (by decide) rfl rfl fl_X6_13 dX6_reads_23 ?_
      refine g_iconst dX6_reads_26 ?_
      refine g_aload0 dX6_reads_27 ?_
      refine g_sipush dX6_reads_28 (by decide) ?_
      refine g_sipush dX6_reads_31 (by decide) ?_
      refine f_cV2q (number_n hT hln hW ⟨by decide, by decide⟩ ⟨by decide, by decide⟩ hr1) rfl (by decide) rfl oY_X6_number oI_X6_number lk_X6_250 rfl dX6_reads_34 (by omega) (by omega) rfl (Or.inl rfl) (fun σ34 l34 h34 => ?_)
      have el34 := h34.1
      subst el34
      have F1 := h34.2.1
      refine f_iast rfl (by decide) ⟨by omega, by show _ < ((67 : Nat) : Int); omega⟩ dX6_reads_37 ?_
      refine g_aload0 dX6_reads_38 ?_
      refine f_getr (r := 94) rfl (by decide) rfl rfl fl_X6_13 dX6_reads_39 ?_
      refine g_iconst dX6_reads_42 ?_
      refine g_aload0 dX6_reads_43 ?_
      refine g_iconst dX6_reads_44 ?_
      refine g_bipush dX6_reads_45 (by decide) ?_
      refine f_cV2w (number_f F1.set) rfl (by decide) rfl oY_X6_number oI_X6_number lk_X6_250 rfl dX6_reads_47 rfl (Or.inl rfl) ?_
      refine f_iast rfl (by decide) ⟨by omega, by show _ < ((67 : Nat) : Int); omega⟩ dX6_reads_50 ?_
      refine g_aload0 dX6_reads_51 ?_
      refine f_getr (r := 94) rfl (by decide) rfl rfl fl_X6_13 dX6_reads_52 ?_
      refine g_iconst dX6_reads_55 ?_
      refine g_aload0 dX6_reads_56 ?_
      refine g_iconst dX6_reads_57 ?_
      refine g_bipush dX6_reads_58 (by decide) ?_
      refine f_cV2w (number_f F1.set.set) rfl (by decide) rfl oY_X6_number oI_X6_number lk_X6_250 rfl dX6_reads_60 rfl (Or.inl rfl) ?_
      refine f_iast rfl (by decide) ⟨by omega, by show _ < ((67 : Nat) : Int); omega⟩ dX6_reads_63 ?_
      refine g_iconst dX6_reads_64 ?_
      refine g_istore1 dX6_reads_65 rfl (by decide) ?_
      exact reads_F (k := x.1) (pl := x.2) F1.set.set.set (by unfold rAll; simp only [hst, hr1])
    · rcases hr2 : rNum (σ 105) N 5 20 e1 with x | ⟨w, e2⟩
      · refine g_aload0 dX6_reads_0 ?_
        refine f_cV0d (hwd) rfl (by decide) rfl oY_X6_word oI_X6_word lk_X6_241 rfl dX6_reads_1 rfl (Or.inl rfl) ?_
        refine g_aload0 dX6_reads_4 ?_
        refine g_ldcS ks_X6_244 dX6_reads_5 ?_
        refine f_cV1w (hw) rfl (by decide) rfl oY_X6_was oI_X6_was lk_X6_246 rfl dX6_reads_7 rfl (Or.inl rfl) ?_
        refine g_if_ne ⟨by decide, by decide⟩ (tgt := 22) dX6_reads_10 rfl (fun h10 => ?_) (fun h10 => absurd h10 (by decide))
        refine g_aload0 dX6_reads_22 ?_
        refine f_getr (r := 94) rfl (by decide) rfl rfl fl_X6_13 dX6_reads_23 ?_
        refine g_iconst dX6_reads_26 ?_
        refine g_aload0 dX6_reads_27 ?_
        refine g_sipush dX6_reads_28 (by decide) ?_
        refine g_sipush dX6_reads_31 (by decide) ?_
        refine f_cV2q (number_y hT hln hW ⟨by decide, by decide⟩ ⟨by decide, by decide⟩ hr1) rfl (by decide) rfl oY_X6_number oI_X6_number lk_X6_250 rfl dX6_reads_34 (by omega) (by omega) rfl (Or.inl rfl) (fun σ34 l34 h34 => ?_)
        have el34 := h34.1
        subst el34
        have Q1 := h34.2.1
        refine f_iast rfl (by decide) ⟨by omega, by show _ < ((67 : Nat) : Int); omega⟩ dX6_reads_37 ?_
        refine g_aload0 dX6_reads_38 ?_
        refine f_getr (r := 94) rfl (by decide) rfl rfl fl_X6_13 dX6_reads_39 ?_
        refine g_iconst dX6_reads_42 ?_
        refine g_aload0 dX6_reads_43 ?_
        refine g_iconst dX6_reads_44 ?_
        refine g_bipush dX6_reads_45 (by decide) ?_
        refine f_cV2q (number_n hT hln Q1.set ⟨by decide, by decide⟩ ⟨by decide, by decide⟩ hr2) rfl (by decide) rfl oY_X6_number oI_X6_number lk_X6_250 rfl dX6_reads_47 (by omega) (by omega) rfl (Or.inl rfl) (fun σ47 l47 h47 => ?_)
        have el47 := h47.1
        subst el47
        have F2 := h47.2.1
        refine f_iast rfl (by decide) ⟨by omega, by show _ < ((67 : Nat) : Int); omega⟩ dX6_reads_50 ?_
        refine g_aload0 dX6_reads_51 ?_
        refine f_getr (r := 94) rfl (by decide) rfl rfl fl_X6_13 dX6_reads_52 ?_
        refine g_iconst dX6_reads_55 ?_
        refine g_aload0 dX6_reads_56 ?_
        refine g_iconst dX6_reads_57 ?_
        refine g_bipush dX6_reads_58 (by decide) ?_
        refine f_cV2w (number_f F2.set) rfl (by decide) rfl oY_X6_number oI_X6_number lk_X6_250 rfl dX6_reads_60 rfl (Or.inl rfl) ?_
        refine f_iast rfl (by decide) ⟨by omega, by show _ < ((67 : Nat) : Int); omega⟩ dX6_reads_63 ?_
        refine g_iconst dX6_reads_64 ?_
        refine g_istore1 dX6_reads_65 rfl (by decide) ?_
        exact reads_F (k := x.1) (pl := x.2) F2.set.set (by unfold rAll; simp only [hst, hr1, hr2])
      · rcases hr3 : rNum (σ 105) N 5 49 e2 with x | ⟨u, e3⟩
        · refine g_aload0 dX6_reads_0 ?_
          refine f_cV0d (hwd) rfl (by decide) rfl oY_X6_word oI_X6_word lk_X6_241 rfl dX6_reads_1 rfl (Or.inl rfl) ?_
          refine g_aload0 dX6_reads_4 ?_
          refine g_ldcS ks_X6_244 dX6_reads_5 ?_
          refine f_cV1w (hw) rfl (by decide) rfl oY_X6_was oI_X6_was lk_X6_246 rfl dX6_reads_7 rfl (Or.inl rfl) ?_
          refine g_if_ne ⟨by decide, by decide⟩ (tgt := 22) dX6_reads_10 rfl (fun h10 => ?_) (fun h10 => absurd h10 (by decide))
          refine g_aload0 dX6_reads_22 ?_
          refine f_getr (r := 94) rfl (by decide) rfl rfl fl_X6_13 dX6_reads_23 ?_
          refine g_iconst dX6_reads_26 ?_
          refine g_aload0 dX6_reads_27 ?_
          refine g_sipush dX6_reads_28 (by decide) ?_
          refine g_sipush dX6_reads_31 (by decide) ?_
          refine f_cV2q (number_y hT hln hW ⟨by decide, by decide⟩ ⟨by decide, by decide⟩ hr1) rfl (by decide) rfl oY_X6_number oI_X6_number lk_X6_250 rfl dX6_reads_34 (by omega) (by omega) rfl (Or.inl rfl) (fun σ34 l34 h34 => ?_)
          have el34 := h34.1
          subst el34
          have Q1 := h34.2.1
          refine f_iast rfl (by decide) ⟨by omega, by show _ < ((67 : Nat) : Int); omega⟩ dX6_reads_37 ?_
          refine g_aload0 dX6_reads_38 ?_
          refine f_getr (r := 94) rfl (by decide) rfl rfl fl_X6_13 dX6_reads_39 ?_
          refine g_iconst dX6_reads_42 ?_
          refine g_aload0 dX6_reads_43 ?_
          refine g_iconst dX6_reads_44 ?_
          refine g_bipush dX6_reads_45 (by decide) ?_
          refine f_cV2q (number_y hT hln Q1.set ⟨by decide, by decide⟩ ⟨by decide, by decide⟩ hr2) rfl (by decide) rfl oY_X6_number oI_X6_number lk_X6_250 rfl dX6_reads_47 (by omega) (by omega) rfl (Or.inl rfl) (fun σ47 l47 h47 => ?_)
          have el47 := h47.1
          subst el47
          have Q2 := h47.2.1
          refine f_iast rfl (by decide) ⟨by omega, by show _ < ((67 : Nat) : Int); omega⟩ dX6_reads_50 ?_
          refine g_aload0 dX6_reads_51 ?_
          refine f_getr (r := 94) rfl (by decide) rfl rfl fl_X6_13 dX6_reads_52 ?_
          refine g_iconst dX6_reads_55 ?_
          refine g_aload0 dX6_reads_56 ?_
          refine g_iconst dX6_reads_57 ?_
          refine g_bipush dX6_reads_58 (by decide) ?_
          refine f_cV2q (number_n hT hln Q2.set ⟨by decide, by decide⟩ ⟨by decide, by decide⟩ hr3) rfl (by decide) rfl oY_X6_number oI_X6_number lk_X6_250 rfl dX6_reads_60 (by omega) (by omega) rfl (Or.inl rfl) (fun σ60 l60 h60 => ?_)
          have el60 := h60.1
          subst el60
          have F3 := h60.2.1
          refine f_iast rfl (by decide) ⟨by omega, by show _ < ((67 : Nat) : Int); omega⟩ dX6_reads_63 ?_
          refine g_iconst dX6_reads_64 ?_
          refine g_istore1 dX6_reads_65 rfl (by decide) ?_
          exact reads_F (k := x.1) (pl := x.2) F3.set (by unfold rAll; simp only [hst, hr1, hr2, hr3])
        · refine g_aload0 dX6_reads_0 ?_
          refine f_cV0d (hwd) rfl (by decide) rfl oY_X6_word oI_X6_word lk_X6_241 rfl dX6_reads_1 rfl (Or.inl rfl) ?_
          refine g_aload0 dX6_reads_4 ?_
          refine g_ldcS ks_X6_244 dX6_reads_5 ?_
          refine f_cV1w (hw) rfl (by decide) rfl oY_X6_was oI_X6_was lk_X6_246 rfl dX6_reads_7 rfl (Or.inl rfl) ?_
          refine g_if_ne ⟨by decide, by decide⟩ (tgt := 22) dX6_reads_10 rfl (fun h10 => ?_) (fun h10 => absurd h10 (by decide))
          refine g_aload0 dX6_reads_22 ?_
          refine f_getr (r := 94) rfl (by decide) rfl rfl fl_X6_13 dX6_reads_23 ?_
          refine g_iconst dX6_reads_26 ?_
          refine g_aload0 dX6_reads_27 ?_
          refine g_sipush dX6_reads_28 (by decide) ?_
          refine g_sipush dX6_reads_31 (by decide) ?_
          refine f_cV2q (number_y hT hln hW ⟨by decide, by decide⟩ ⟨by decide, by decide⟩ hr1) rfl (by decide) rfl oY_X6_number oI_X6_number lk_X6_250 rfl dX6_reads_34 (by omega) (by omega) rfl (Or.inl rfl) (fun σ34 l34 h34 => ?_)
          have el34 := h34.1
          subst el34
          have Q1 := h34.2.1
          refine f_iast rfl (by decide) ⟨by omega, by show _ < ((67 : Nat) : Int); omega⟩ dX6_reads_37 ?_
          refine g_aload0 dX6_reads_38 ?_
          refine f_getr (r := 94) rfl (by decide) rfl rfl fl_X6_13 dX6_reads_39 ?_
          refine g_iconst dX6_reads_42 ?_
          refine g_aload0 dX6_reads_43 ?_
          refine g_iconst dX6_reads_44 ?_
          refine g_bipush dX6_reads_45 (by decide) ?_
          refine f_cV2q (number_y hT hln Q1.set ⟨by decide, by decide⟩ ⟨by decide, by decide⟩ hr2) rfl (by decide) rfl oY_X6_number oI_X6_number lk_X6_250 rfl dX6_reads_47 (by omega) (by omega) rfl (Or.inl rfl) (fun σ47 l47 h47 => ?_)
          have el47 := h47.1
          subst el47
          have Q2 := h47.2.1
          refine f_iast rfl (by decide) ⟨by omega, by show _ < ((67 : Nat) : Int); omega⟩ dX6_reads_50 ?_
          refine g_aload0 dX6_reads_51 ?_
          refine f_getr (r := 94) rfl (by decide) rfl rfl fl_X6_13 dX6_reads_52 ?_
          refine g_iconst dX6_reads_55 ?_
          refine g_aload0 dX6_reads_56 ?_
          refine g_iconst dX6_reads_57 ?_
          refine g_bipush dX6_reads_58 (by decide) ?_
          refine f_cV2q (number_y hT hln Q2.set ⟨by decide, by decide⟩ ⟨by decide, by decide⟩ hr3) rfl (by decide) rfl oY_X6_number oI_X6_number lk_X6_250 rfl dX6_reads_60 (by omega) (by omega) rfl (Or.inl rfl) (fun σ60 l60 h60 => ?_)
          have el60 := h60.1
          subst el60
          have Q3 := h60.2.1
          refine f_iast rfl (by decide) ⟨by omega, by show _ < ((67 : Nat) : Int); omega⟩ dX6_reads_63 ?_
          refine g_iconst dX6_reads_64 ?_
          refine g_istore1 dX6_reads_65 rfl (by decide) ?_
          have S := Q3.set (k := 2) (v := u)
          rw [bgR_0, bgR_1, bgR_2] at S
          have r1 := rNum_r hr1
          have r2 := rNum_r hr2
          have r3 := rNum_r hr3
          rw [show rAll (σ 105) N = rLp (σ 105) N 400 (bgR v w u) e3 0 0 from by unfold rAll; simp only [hst, hr1, hr2, hr3]]
          exact reads_l hT hln 400 _ _ _ _ _ S (bgR_ok ⟨r1.1, r1.2.1⟩ ⟨r2.1, r2.2.1⟩ ⟨r3.1, r3.2.1⟩) (Or.inl rfl) (by omega)
  · rw [bvF c0] at hw
    rw [if_neg c0] at hst
    have F1 := hW.fail (k := 1) (pl := q) ⟨by decide, by decide⟩
    refine g_aload0 dX6_reads_0 ?_
    refine f_cV0d (hwd) rfl (by decide) rfl oY_X6_word oI_X6_word lk_X6_241 rfl dX6_reads_1 rfl (Or.inl rfl) ?_
    refine g_aload0 dX6_reads_4 ?_
    refine g_ldcS ks_X6_244 dX6_reads_5 ?_
    refine f_cV1w (hw) rfl (by decide) rfl oY_X6_was oI_X6_was lk_X6_246 rfl dX6_reads_7 rfl (Or.inl rfl) ?_
    refine g_if_ne ⟨by decide, by decide⟩ (tgt := 22) dX6_reads_10 rfl (fun h10 => absurd h10 (by decide)) (fun h10 => ?_)
    refine g_aload0 dX6_reads_13 ?_
    refine g_iconst dX6_reads_14 ?_
    refine g_aload0 dX6_reads_15 ?_
    refine f_geti (J := 17) rfl (by decide) rfl rfl fl_X6_205 dX6_reads_16 ?_
    rw [hwf]
    refine f_cV2d (fails_0 hW.2.1) rfl (by decide) rfl oY_X6_fails oI_X6_fails lk_X6_237 rfl dX6_reads_19 rfl (Or.inl rfl) ?_
    refine g_aload0 dX6_reads_22 ?_
    refine f_getr (r := 94) rfl (by decide) rfl rfl fl_X6_13 dX6_reads_23 ?_
    refine g_iconst dX6_reads_26 ?_
    refine g_aload0 dX6_reads_27 ?_
    refine g_sipush dX6_reads_28 (by decide) ?_
    refine g_sipush dX6_reads_31 (by decide) ?_
    refine f_cV2w (number_f F1) rfl (by decide) rfl oY_X6_number oI_X6_number lk_X6_250 rfl dX6_reads_34 rfl (Or.inl rfl) ?_
    refine f_iast rfl (by decide) ⟨by omega, by show _ < ((67 : Nat) : Int); omega⟩ dX6_reads_37 ?_
    refine g_aload0 dX6_reads_38 ?_
    refine f_getr (r := 94) rfl (by decide) rfl rfl fl_X6_13 dX6_reads_39 ?_
    refine g_iconst dX6_reads_42 ?_
    refine g_aload0 dX6_reads_43 ?_
    refine g_iconst dX6_reads_44 ?_
    refine g_bipush dX6_reads_45 (by decide) ?_
    refine f_cV2w (number_f F1.set) rfl (by decide) rfl oY_X6_number oI_X6_number lk_X6_250 rfl dX6_reads_47 rfl (Or.inl rfl) ?_
    refine f_iast rfl (by decide) ⟨by omega, by show _ < ((67 : Nat) : Int); omega⟩ dX6_reads_50 ?_
    refine g_aload0 dX6_reads_51 ?_
    refine f_getr (r := 94) rfl (by decide) rfl rfl fl_X6_13 dX6_reads_52 ?_
    refine g_iconst dX6_reads_55 ?_
    refine g_aload0 dX6_reads_56 ?_
    refine g_iconst dX6_reads_57 ?_
    refine g_bipush dX6_reads_58 (by decide) ?_
    refine f_cV2w (number_f F1.set.set) rfl (by decide) rfl oY_X6_number oI_X6_number lk_X6_250 rfl dX6_reads_60 rfl (Or.inl rfl) ?_
    refine f_iast rfl (by decide) ⟨by omega, by show _ < ((67 : Nat) : Int); omega⟩ dX6_reads_63 ?_
    refine g_iconst dX6_reads_64 ?_
    refine g_istore1 dX6_reads_65 rfl (by decide) ?_
    exact reads_F (k := 1) (pl := q) F1.set.set.set (by unfold rAll; simp only [hst])
end C89
