/-! The reader: all of a description -/
section C64
variable {g : gT} {σ τ : sT} {l : Nat → Nat}
/-- the draft as it begins -/
def bgR (a b c : Int) : Int → Int := fun k => if k = 0 then a else if k = 1 then b else if k = 2 then c else if k = 4 then 1 else if k = 5 then 1 else if k = 6 then 1 else if k = 7 then 2 else if k = 8 then 1 else 0
theorem bgR_0 {a b c v : Int} : su (bgR a b c) 0 v = bgR v b c := by
  funext k
  unfold su bgR
  by_cases h : k = 0
  · rw [if_pos h, if_pos h]
  · rw [if_neg h, if_neg h, if_neg h]
theorem bgR_1 {a b c v : Int} : su (bgR a b c) 1 v = bgR a v c := by
  funext k
  unfold su bgR
  by_cases h : k = 1
  · subst h; rfl
  · rw [if_neg h, if_neg h, if_neg h]
theorem bgR_2 {a b c v : Int} : su (bgR a b c) 2 v = bgR a b v := by
  funext k
  unfold su bgR
  by_cases h : k = 2
  · subst h; rfl
  · rw [if_neg h, if_neg h, if_neg h]
theorem bgR_ok {a b c : Int} (ha : 200 ≤ a ∧ a ≤ 600) (hb : 5 ≤ b ∧ b ≤ 20) (hc : 5 ≤ c ∧ c ≤ 49) : SOK 0 (bgR a b c) :=
  ⟨ha, hb, hc, show (0 : Int) ≤ 0 ∧ (0 : Int) ≤ 7 by decide, show (0 : Int) ≤ 1 ∧ (1 : Int) ≤ 2 by decide, show (0 : Int) ≤ 1 ∧ (1 : Int) ≤ 3 by decide, show (1 : Int) ≤ 1 ∧ (1 : Int) ≤ 9 by decide, show (1 : Int) ≤ 2 ∧ (2 : Int) ≤ 9 by decide, show (0 : Int) ≤ 1 ∧ (1 : Int) ≤ 9 by decide, show (0 : Int) ≤ 0 ∧ (0 : Int) ≤ 40 by decide, show (0 : Int) ≤ 0 ∧ (0 : Int) < 2 * ((3 ^ 0 : Nat) : Int) by decide, show (0 : Int) ≤ 0 ∧ (0 : Int) ≤ 0 by decide, show (0 : Int) ≤ 0 ∧ ((0 : Int) = 0 ∨ (0 : Int) < 0) by decide, fun k k0 k1 => absurd (show k < 0 from k1) (by omega), fun k k0 k1 => absurd (show k < 0 from k1) (by omega)⟩
theorem CSt.u0 {b : Nat} {s : Int → Int} {v : Int} (h : CSt σ b s) : CSt (up σ b 0 v) b (su s 0 v) := ⟨by rw [up_eq, su_eq], by rw [up_ne (by omega), su_ne (by decide)]; exact h.f1, by rw [up_ne (by omega), su_ne (by decide)]; exact h.f2, by rw [up_ne (by omega), su_ne (by decide)]; exact h.f3, by rw [up_ne (by omega), su_ne (by decide)]; exact h.f4, by rw [up_ne (by omega), su_ne (by decide)]; exact h.f5, by rw [up_ne (by omega), su_ne (by decide)]; exact h.f6, by rw [up_ne (by omega), su_ne (by decide)]; exact h.f7, by rw [up_ne (by omega), su_ne (by decide)]; exact h.f8, by rw [up_ne (by omega), su_ne (by decide)]; exact h.f9, by rw [up_ne (by omega), su_ne (by decide)]; exact h.f10, by rw [up_ne (by omega), su_ne (by decide)]; exact h.f11, by rw [up_ne (by omega), su_ne (by decide)]; exact h.f12, fun k k0 k1 => by rw [su_ne (by decide)] at k1; rw [up_n (by omega), wPl_su (by decide)]; exact h.pl k k0 k1, fun k k0 k1 => by rw [su_ne (by decide)] at k1; rw [up_n (by omega), wSz_su (by decide)]; exact h.sz k k0 k1, fun k k0 k1 => by rw [su_ne (by decide)] at k1; rw [up_n (by omega), wTu_su (by decide)]; exact h.tu k k0 k1⟩
theorem CSt.u1 {b : Nat} {s : Int → Int} {v : Int} (h : CSt σ b s) : CSt (up σ b 1 v) b (su s 1 v) := ⟨by rw [up_ne (by omega), su_ne (by decide)]; exact h.f0, by rw [up_eq, su_eq], by rw [up_ne (by omega), su_ne (by decide)]; exact h.f2, by rw [up_ne (by omega), su_ne (by decide)]; exact h.f3, by rw [up_ne (by omega), su_ne (by decide)]; exact h.f4, by rw [up_ne (by omega), su_ne (by decide)]; exact h.f5, by rw [up_ne (by omega), su_ne (by decide)]; exact h.f6, by rw [up_ne (by omega), su_ne (by decide)]; exact h.f7, by rw [up_ne (by omega), su_ne (by decide)]; exact h.f8, by rw [up_ne (by omega), su_ne (by decide)]; exact h.f9, by rw [up_ne (by omega), su_ne (by decide)]; exact h.f10, by rw [up_ne (by omega), su_ne (by decide)]; exact h.f11, by rw [up_ne (by omega), su_ne (by decide)]; exact h.f12, fun k k0 k1 => by rw [su_ne (by decide)] at k1; rw [up_n (by omega), wPl_su (by decide)]; exact h.pl k k0 k1, fun k k0 k1 => by rw [su_ne (by decide)] at k1; rw [up_n (by omega), wSz_su (by decide)]; exact h.sz k k0 k1, fun k k0 k1 => by rw [su_ne (by decide)] at k1; rw [up_n (by omega), wTu_su (by decide)]; exact h.tu k k0 k1⟩
theorem bgSt_c (o : Nat) : CSt (bgSt σ o) o (bgR (σ o 0) (σ o 1) (σ o 2)) := by
  refine ⟨?_, ?_, ?_, ?_, ?_, ?_, ?_, ?_, ?_, ?_, ?_, ?_, ?_, fun k k0 k1 => absurd (show k < 0 from k1) (by omega), fun k k0 k1 => absurd (show k < 0 from k1) (by omega), fun k k0 k1 => absurd (show k < 0 from k1) (by omega)⟩
  · unfold bgSt; rw [up_ne (by omega), up_ne (by omega), up_ne (by omega), up_ne (by omega), up_ne (by omega), up_ne (by omega), up_ne (by omega), up_ne (by omega), up_ne (by omega), up_ne (by omega)]; rfl
  · unfold bgSt; rw [up_ne (by omega), up_ne (by omega), up_ne (by omega), up_ne (by omega), up_ne (by omega), up_ne (by omega), up_ne (by omega), up_ne (by omega), up_ne (by omega), up_ne (by omega)]; rfl
  · unfold bgSt; rw [up_ne (by omega), up_ne (by omega), up_ne (by omega), up_ne (by omega), up_ne (by omega), up_ne (by omega), up_ne (by omega), up_ne (by omega), up_ne (by omega), up_ne (by omega)]; rfl
  · unfold bgSt; rw [up_ne (by omega), up_ne (by omega), up_ne (by omega), up_ne (by omega), up_ne (by omega), up_ne (by omega), up_ne (by omega), up_ne (by omega), up_ne (by omega), up_eq]; rfl
  · unfold bgSt; rw [up_ne (by omega), up_ne (by omega), up_ne (by omega), up_ne (by omega), up_ne (by omega), up_ne (by omega), up_ne (by omega), up_ne (by omega), up_eq]; rfl
  · unfold bgSt; rw [up_ne (by omega), up_ne (by omega), up_ne (by omega), up_ne (by omega), up_ne (by omega), up_ne (by omega), up_ne (by omega), up_eq]; rfl
  · unfold bgSt; rw [up_ne (by omega), up_ne (by omega), up_ne (by omega), up_ne (by omega), up_ne (by omega), up_ne (by omega), up_eq]; rfl
  · unfold bgSt; rw [up_ne (by omega), up_ne (by omega), up_ne (by omega), up_ne (by omega), up_ne (by omega), up_eq]; rfl
  · unfold bgSt; rw [up_ne (by omega), up_ne (by omega), up_ne (by omega), up_ne (by omega), up_eq]; rfl
  · unfold bgSt; rw [up_ne (by omega), up_ne (by omega), up_ne (by omega), up_eq]; rfl
  · unfold bgSt; rw [up_ne (by omega), up_ne (by omega), up_eq]; rfl
  · unfold bgSt; rw [up_ne (by omega), up_eq]; rfl
  · unfold bgSt; rw [up_eq]; rfl
theorem bgSt_n {o a : Nat} (h : a ≠ o) : bgSt σ o a = σ a := by
  unfold bgSt
  rw [up_n h, up_n h, up_n h, up_n h, up_n h, up_n h, up_n h, up_n h, up_n h, up_n h]
def PW (σ : sT) (N : Nat) (p : Nat) (a b c : Int) (τ : sT) : Prop := (∀ z, z ≠ 9 → z < 11 ∨ 15 < z → τ z = σ z) ∧ τ 9 1 = (N : Int) ∧ τ 9 2 = 0 ∧ τ 9 3 = 0 ∧ τ 9 4 = 0 ∧ τ 9 6 = (p : Int) ∧ τ 9 9 = 0 ∧ CSt τ 11 (bgR a b c) ∧ p ≤ N
theorem PW.txt {N p : Nat} {a b c : Int} (h : PW σ N p a b c τ) : τ 10 = σ 10 := h.1 10 (by decide) (Or.inl (by decide))
theorem PW.len {N p : Nat} {a b c : Int} (h : PW σ N p a b c τ) : τ 9 1 = (N : Int) := h.2.1
theorem PW.pos {N p : Nat} {a b c : Int} (h : PW σ N p a b c τ) : τ 9 6 = (p : Int) := h.2.2.2.2.2.1
theorem PW.le {N p : Nat} {a b c : Int} (h : PW σ N p a b c τ) : p ≤ N := h.2.2.2.2.2.2.2.2
theorem PW.c {N p : Nat} {a b c : Int} (h : PW σ N p a b c τ) : CSt τ 11 (bgR a b c) := h.2.2.2.2.2.2.2.1
theorem PW.n9 {ρ : sT} {N p e : Nat} {a b c : Int} (h : PW σ N p a b c τ) (hn : N9 τ ρ) (h2 : ρ 9 2 = τ 9 2) (h3 : ρ 9 3 = τ 9 3) (h6 : ρ 9 6 = (e : Int)) (he : e ≤ N) : PW σ N e a b c ρ := by
  obtain ⟨a1, a2, a3, a4, a5, a6, a7, a8, a9⟩ := h
  exact ⟨fun z z0 z1 => (hn.1 z z0).trans (a1 z z0 z1), (hn.2 1 (by decide) (by decide) (by decide) (by decide) (by decide)).trans a2, h2.trans a3, h3.trans a4, (hn.2 4 (by decide) (by decide) (by decide) (by decide) (by decide)).trans a5, h6, (hn.2 9 (by decide) (by decide) (by decide) (by decide) (by decide)).trans a7, a8.n9 hn, he⟩
theorem PW.fail {ρ : sT} {N p : Nat} {a b c : Int} {e : Int × Nat} (h : PW σ N p a b c τ) (hn : N9 τ ρ) (h2 : ρ 9 2 = e.1) (h3 : ρ 9 3 = (e.2 : Int)) : PFt σ N 0 e ρ := by
  obtain ⟨a1, a2, a3, a4, a5, a6, a7, a8, a9⟩ := h
  exact ⟨fun z z0 z1 => (hn.1 z z0).trans (a1 z z0 z1), (hn.2 1 (by decide) (by decide) (by decide) (by decide) (by decide)).trans a2, h2, h3, (hn.2 4 (by decide) (by decide) (by decide) (by decide) (by decide)).trans a5⟩
theorem PW.numF {ρ : sT} {N p : Nat} {a b c : Int} {e : Int × Nat} (h : PW σ N p a b c τ) (hn : nmA τ e ρ) : PFt σ N 0 e ρ := h.fail hn.1 hn.2.1 hn.2.2
theorem PW.num {ρ : sT} {N p e : Nat} {lo hi v a b c : Int} {sp : Nat} (h : PW σ N p a b c τ) (hn : nmB τ sp (v, e) ρ) (hr : rNum (σ 10) N lo hi p = .inr (v, e)) : PW σ N e a b c ρ ∧ ρ 9 8 = v ∧ lo ≤ v ∧ v ≤ hi :=
  ⟨h.n9 hn.1 hn.2.1 hn.2.2.1 hn.2.2.2.1 (num_le h.le hr), hn.2.2.2.2.2, (rNum_r hr).1, (rNum_r hr).2.1⟩
theorem PW.set {ρ : sT} {N p : Nat} {a b c a2 b2 c2 : Int} (h : PW σ N p a b c τ) (hf : ∀ z, z < 11 ∨ 14 < z → ρ z = τ z) (hc : CSt ρ 11 (bgR a2 b2 c2)) : PW σ N p a2 b2 c2 ρ := by
  obtain ⟨a1, x2, a3, a4, a5, a6, a7, a8, a9⟩ := h
  have e9 : ρ 9 = τ 9 := hf 9 (by decide)
  exact ⟨fun z z0 z1 => (hf z (by omega)).trans (a1 z z0 z1), by rw [e9]; exact x2, by rw [e9]; exact a3, by rw [e9]; exact a4, by rw [e9]; exact a5, by rw [e9]; exact a6, by rw [e9]; exact a7, hc, a9⟩
theorem PW.st {N p : Nat} {a b c : Int} (h : PW σ N p a b c τ) (ho : SOK 0 (bgR a b c)) : PSt σ N 0 0 (bgR a b c, p) τ := by
  obtain ⟨a1, x2, a3, a4, a5, a6, a7, a8, a9⟩ := h
  exact ⟨a1, x2, a3, a4, a5, a6, a7, a8, ho, a9⟩
def rWh (T : Int → Int) (N : Nat) : Sum (Int × Nat) ((Int → Int) × Nat) :=
  if isWB T (sk isSp T N 0) (sk isLt T N (sk isSp T N 0)) 0 = true then (match rNum T N 200 600 (sk isLt T N (sk isSp T N 0)) with
    | .inl e => .inl e
    | .inr (v, p1) => match rNum T N 5 20 p1 with
      | .inl e => .inl e
      | .inr (w, p2) => match rNum T N 5 49 p2 with
        | .inl e => .inl e
        | .inr (u, p3) => .inr (bgR v w u, p3))
  else .inl (1, sk isSp T N 0)
theorem readWhistle_ok {N : Nat} {a b c : Int} (hT : TX (σ 10) N) (h : PW σ N 0 a b c τ) : Fn g zX2_readWhistle 0 0 [.ref 9] τ l (Ry l (PFt σ N 0) (PSt σ N 0 0) (rWh (σ 10) N)) := by
  have hs := sk_le (Q := isSp) (T := σ 10) (Nat.zero_le N)
  have hs2 := sk_le (Q := isLt) (T := σ 10) hs.2
  refine Fn.of [some (.ref 9)] rfl (by decide) (Nat.le_of_ble_eq_true rfl) rfl ?_
  refine g_aload0 dX2_readWhistle_0 ?_
  refine f_cV0d (readWord_ok hT h.len h.txt h.pos h.le) rfl (by decide) rfl oY_X2_readWord oI_X2_readWord lk_X2_114 rfl dX2_readWhistle_1 rfl (Or.inl rfl) ?_
  have hW9 : N9 τ (up (up τ 9 7 ((sk isSp (σ 10) N 0) : Int)) 9 6 ((sk isLt (σ 10) N (sk isSp (σ 10) N 0)) : Int)) := ((N9.refl τ).up (by decide)).up (by decide)
  have hW : PW σ N (sk isLt (σ 10) N (sk isSp (σ 10) N 0)) a b c (up (up τ 9 7 ((sk isSp (σ 10) N 0) : Int)) 9 6 ((sk isLt (σ 10) N (sk isSp (σ 10) N 0)) : Int)) := h.n9 hW9 (by rw [up_ne (by decide), up_ne (by decide)]) (by rw [up_ne (by decide), up_ne (by decide)]) up_eq hs2.2
  have hW7 : (up (up τ 9 7 ((sk isSp (σ 10) N 0) : Int)) 9 6 ((sk isLt (σ 10) N (sk isSp (σ 10) N 0)) : Int)) 9 7 = ((sk isSp (σ 10) N 0) : Int) := by rw [up_ne (by decide), up_eq]
  refine g_aload0 dX2_readWhistle_4 ?_
  refine g_ldcS ks_X2_117 dX2_readWhistle_5 ?_
  refine f_cV1w (isWord_b (i := 0) (q := (sk isSp (σ 10) N 0)) (e := (sk isLt (σ 10) N (sk isSp (σ 10) N 0))) hT hW.txt hW.pos hW7 ⟨hs2.1, hs2.2⟩ (by decide)) rfl (by decide) rfl oY_X2_isWord oI_X2_isWord lk_X2_119 rfl dX2_readWhistle_7 rfl (Or.inl rfl) ?_
  refine g_ifneB (tgt := 23) dX2_readWhistle_10 rfl (fun h10 => ?_) (fun h10 => ?_)
  · refine g_aload0 dX2_readWhistle_23 ?_
    refine g_sipush dX2_readWhistle_24 (by decide) ?_
    refine g_sipush dX2_readWhistle_27 (by decide) ?_
    refine f_cV2n (readNumber_ok hT hW.len hW.txt hW.pos hW.le ⟨by decide, by decide⟩ ⟨by decide, by decide⟩) rfl (by decide) rfl oY_X2_readNumber oI_X2_readNumber lk_X2_123 rfl dX2_readWhistle_30 (Nat.zero_le _) (Nat.zero_le _) rfl (Or.inl rfl) (fun v30 σ30 l30 h30 => ?_) (fun e30 σ30 l30 h30 => ?_)
    · obtain ⟨e30, y30⟩ := Rz.split h30
      subst e30
      rcases y30 with ⟨k30, pl30, r30, rfl, n30⟩ | ⟨w30, q30, r30, rfl, n30⟩
      · show GW g _ _ _ _ _ _ (iv 0 :: _) _
        refine g_if_ne ⟨by decide, by decide⟩ (tgt := 38) dX2_readWhistle_33 rfl (fun h33 => absurd h33 (by decide)) (fun h33 => ?_)
        refine g_iconst dX2_readWhistle_36 ?_
        refine g_iretB (Or.inl rfl) rfl dX2_readWhistle_37 ?_
        exact Ry.no (by unfold rWh; rw [if_pos h10]; simp only [r30]) (hW.numF n30)
      · show GW g _ _ _ _ _ _ (iv 1 :: _) _
        obtain ⟨Q30, x30, a30, b30⟩ := hW.num n30 r30
        refine g_if_ne ⟨by decide, by decide⟩ (tgt := 38) dX2_readWhistle_33 rfl (fun h33 => ?_) (fun h33 => absurd h33 (by decide))
        refine g_aload0 dX2_readWhistle_38 ?_
        refine f_getr (r := 11) rfl (by decide) rfl rfl fl_X2_31 dX2_readWhistle_39 ?_
        refine g_aload0 dX2_readWhistle_42 ?_
        refine f_geti (J := 8) rfl (by decide) rfl rfl fl_X2_41 dX2_readWhistle_43 ?_
        rw [x30]
        refine f_puti (J := 0) rfl (by decide) rfl rfl fl_X2_126 rfl (fun _ _ _ h => by cases h; rfl) dX2_readWhistle_46 ?_
        have S1 := Q30.set (ρ := up σ30 11 0 w30) (a2 := w30) (b2 := b) (c2 := c) (fun z hz => up_n (by omega)) (by rw [← bgR_0 (a := a)]; exact Q30.c.u0)
        refine g_aload0 dX2_readWhistle_49 ?_
        refine g_iconst dX2_readWhistle_50 ?_
        refine g_bipush dX2_readWhistle_51 (by decide) ?_
        refine f_cV2n (readNumber_ok hT S1.len S1.txt S1.pos S1.le ⟨by decide, by decide⟩ ⟨by decide, by decide⟩) rfl (by decide) rfl oY_X2_readNumber oI_X2_readNumber lk_X2_123 rfl dX2_readWhistle_53 (Nat.zero_le _) (Nat.zero_le _) rfl (Or.inl rfl) (fun v53 σ53 l53 h53 => ?_) (fun e53 σ53 l53 h53 => ?_)
        · obtain ⟨e53, y53⟩ := Rz.split h53
          subst e53
          rcases y53 with ⟨k53, pl53, r53, rfl, n53⟩ | ⟨w53, q53, r53, rfl, n53⟩
          · show GW g _ _ _ _ _ _ (iv 0 :: _) _
            refine g_if_ne ⟨by decide, by decide⟩ (tgt := 61) dX2_readWhistle_56 rfl (fun h56 => absurd h56 (by decide)) (fun h56 => ?_)
            refine g_iconst dX2_readWhistle_59 ?_
            refine g_iretB (Or.inl rfl) rfl dX2_readWhistle_60 ?_
            exact Ry.no (by unfold rWh; rw [if_pos h10]; simp only [r30, r53]) (S1.numF n53)
          · show GW g _ _ _ _ _ _ (iv 1 :: _) _
            obtain ⟨Q53, x53, a53, b53⟩ := S1.num n53 r53
            refine g_if_ne ⟨by decide, by decide⟩ (tgt := 61) dX2_readWhistle_56 rfl (fun h56 => ?_) (fun h56 => absurd h56 (by decide))
            refine g_aload0 dX2_readWhistle_61 ?_
            refine f_getr (r := 11) rfl (by decide) rfl rfl fl_X2_31 dX2_readWhistle_62 ?_
            refine g_aload0 dX2_readWhistle_65 ?_
            refine f_geti (J := 8) rfl (by decide) rfl rfl fl_X2_41 dX2_readWhistle_66 ?_
            rw [x53]
            refine f_puti (J := 1) rfl (by decide) rfl rfl fl_X2_128 rfl (fun _ _ _ h => by cases h; rfl) dX2_readWhistle_69 ?_
            have S2 := Q53.set (ρ := up σ53 11 1 w53) (a2 := w30) (b2 := w53) (c2 := c) (fun z hz => up_n (by omega)) (by rw [← bgR_1 (b := b)]; exact Q53.c.u1)
            refine g_aload0 dX2_readWhistle_72 ?_
            refine g_iconst dX2_readWhistle_73 ?_
            refine g_bipush dX2_readWhistle_74 (by decide) ?_
            refine f_cV2n (readNumber_ok hT S2.len S2.txt S2.pos S2.le ⟨by decide, by decide⟩ ⟨by decide, by decide⟩) rfl (by decide) rfl oY_X2_readNumber oI_X2_readNumber lk_X2_123 rfl dX2_readWhistle_76 (Nat.zero_le _) (Nat.zero_le _) rfl (Or.inl rfl) (fun v76 σ76 l76 h76 => ?_) (fun e76 σ76 l76 h76 => ?_)
            · obtain ⟨e76, y76⟩ := Rz.split h76
              subst e76
              rcases y76 with ⟨k76, pl76, r76, rfl, n76⟩ | ⟨w76, q76, r76, rfl, n76⟩
              · show GW g _ _ _ _ _ _ (iv 0 :: _) _
                refine g_if_ne ⟨by decide, by decide⟩ (tgt := 84) dX2_readWhistle_79 rfl (fun h79 => absurd h79 (by decide)) (fun h79 => ?_)
                refine g_iconst dX2_readWhistle_82 ?_
                refine g_iretB (Or.inl rfl) rfl dX2_readWhistle_83 ?_
                exact Ry.no (by unfold rWh; rw [if_pos h10]; simp only [r30, r53, r76]) (S2.numF n76)
              · show GW g _ _ _ _ _ _ (iv 1 :: _) _
                obtain ⟨Q76, x76, a76, b76⟩ := S2.num n76 r76
                refine g_if_ne ⟨by decide, by decide⟩ (tgt := 84) dX2_readWhistle_79 rfl (fun h79 => ?_) (fun h79 => absurd h79 (by decide))
                refine g_aload0 dX2_readWhistle_84 ?_
                refine f_getr (r := 11) rfl (by decide) rfl rfl fl_X2_31 dX2_readWhistle_85 ?_
                refine g_aload0 dX2_readWhistle_88 ?_
                refine f_geti (J := 8) rfl (by decide) rfl rfl fl_X2_41 dX2_readWhistle_89 ?_
                rw [x76]
                refine f_puti (J := 2) rfl (by decide) rfl rfl fl_X2_131 rfl (fun _ _ _ h => by cases h; rfl) dX2_readWhistle_92 ?_
                refine g_iconst dX2_readWhistle_95 ?_
                refine g_iretB (Or.inr rfl) rfl dX2_readWhistle_96 ?_
                exact Ry.yes (by unfold rWh; rw [if_pos h10]; simp only [r30, r53, r76]) ((Q76.set (ρ := up σ76 11 2 w76) (a2 := w30) (b2 := w53) (c2 := w76) (fun z hz => up_n (by omega)) (by rw [← bgR_2 (c := c)]; exact Q76.c.u2)).st (bgR_ok ⟨a30, b30⟩ ⟨a53, b53⟩ ⟨a76, b76⟩))
            · exact (Rz.nx h76).elim
        · exact (Rz.nx h53).elim
    · exact (Rz.nx h30).elim
  · refine g_aload0 dX2_readWhistle_13 ?_
    refine g_iconst dX2_readWhistle_14 ?_
    refine g_aload0 dX2_readWhistle_15 ?_
    refine f_geti (J := 7) rfl (by decide) rfl rfl fl_X2_38 dX2_readWhistle_16 ?_
    rw [hW7]
    refine f_cV2x (fail_ok) rfl (by decide) rfl oY_X2_fail oI_X2_fail lk_X2_89 rfl dX2_readWhistle_19 rfl (Or.inl rfl) ?_
    refine g_iretB (Or.inl rfl) rfl dX2_readWhistle_22 ?_
    exact Ry.no (by unfold rWh; rw [if_neg h10]) (hW.fail n9_fail (by rw [up_ne (by decide), up_eq]) up_eq)
def rSm (T : Int → Int) (N p : Nat) : Sum (Int × Nat) Unit := if sgn T N p = 59 then .inr () else .inl (1, p)
theorem readSemicolon_ok {N p : Nat} {st ht : Int} {d : Int → Int} (hT : TX (σ 10) N) (h : PSt σ N st ht (d, p) τ) : Fn g zX2_readSemicolon 0 0 [.ref 9] τ l (Ry l (PFt σ N st) (fun _ => PSt σ N (st + 1) ht (d, p + 1)) (rSm (σ 10) N p)) := by
  have hcr := sgn_rng (p := p) hT
  refine Fn.of [some (.ref 9)] rfl (by decide) (Nat.le_of_ble_eq_true rfl) rfl ?_
  refine g_aload0 dX2_readSemicolon_0 ?_
  refine f_cV0w (sign_ok (p := p) hT h.len h.txt h.pos h.le) rfl (by decide) rfl oY_X2_sign oI_X2_sign lk_X2_85 rfl dX2_readSemicolon_1 rfl (Or.inl rfl) ?_
  refine g_bipush dX2_readSemicolon_4 (by decide) ?_
  refine g_icmp_eq ⟨by omega, by omega⟩ ⟨by decide, by decide⟩ (tgt := 19) dX2_readSemicolon_6 rfl (fun h6 => ?_) (fun h6 => ?_)
  · refine g_aload0 dX2_readSemicolon_19 ?_
    refine g_dup rfl dX2_readSemicolon_20 ?_
    refine f_geti (J := 6) rfl (by decide) rfl rfl fl_X2_35 dX2_readSemicolon_21 ?_
    rw [show τ 9 6 = (p : Int) from h.pos]
    refine g_iconst dX2_readSemicolon_24 ?_
    refine g_iadd dX2_readSemicolon_25 ?_
    refine f_puti (J := 6) rfl (by decide) rfl rfl fl_X2_35 rfl (fun _ _ _ h => by cases h; rfl) dX2_readSemicolon_26 ?_
    refine g_aload0 dX2_readSemicolon_29 ?_
    refine g_dup rfl dX2_readSemicolon_30 ?_
    refine f_geti (J := 4) rfl (by decide) rfl rfl fl_X2_25 dX2_readSemicolon_31 ?_
    rw [up_ne (by decide), show τ 9 4 = st from h.stm]
    refine g_iconst dX2_readSemicolon_34 ?_
    refine g_iadd dX2_readSemicolon_35 ?_
    refine f_puti (J := 4) rfl (by decide) rfl rfl fl_X2_25 rfl (fun _ _ _ h => by cases h; rfl) dX2_readSemicolon_36 ?_
    refine g_iconst dX2_readSemicolon_39 ?_
    refine g_iretB (Or.inr rfl) rfl dX2_readSemicolon_40 ?_
    exact Ry.yes (by unfold rSm; rw [if_pos h6]) ⟨fun a a0 a1 => by rw [up_n a0, up_n a0]; exact h.fr a a0 a1, by rw [up_ne (by decide), up_ne (by decide)]; exact h.len, by rw [up_ne (by decide), up_ne (by decide)]; exact h.err, by rw [up_ne (by decide), up_ne (by decide)]; exact h.pl, up_eq, by rw [up_ne (by decide), up_eq]; push_cast; rfl, by rw [up_ne (by decide), up_ne (by decide)]; exact h.tun, h.c.frame (by rw [up_n (by decide), up_n (by decide)]) (by rw [up_n (by decide), up_n (by decide)]) (by rw [up_n (by decide), up_n (by decide)]) (by rw [up_n (by decide), up_n (by decide)]), h.s, by
      by_cases c : p < N
      · exact c
      · exfalso
        unfold sgn at h6
        rw [if_neg c] at h6
        exact absurd h6 (by decide)⟩
  · refine g_aload0 dX2_readSemicolon_9 ?_
    refine g_iconst dX2_readSemicolon_10 ?_
    refine g_aload0 dX2_readSemicolon_11 ?_
    refine f_geti (J := 6) rfl (by decide) rfl rfl fl_X2_35 dX2_readSemicolon_12 ?_
    rw [show τ 9 6 = (p : Int) from h.pos]
    refine f_cV2x (fail_ok) rfl (by decide) rfl oY_X2_fail oI_X2_fail lk_X2_89 rfl dX2_readSemicolon_15 rfl (Or.inl rfl) ?_
    refine g_iretB (Or.inl rfl) rfl dX2_readSemicolon_18 ?_
    exact Ry.no (by unfold rSm; rw [if_neg h6]) (h.fail n9_fail (by rw [up_ne (by decide), up_eq]) up_eq)
def rStm (T : Int → Int) (N : Nat) (d : Int → Int) (ht : Int) (p : Nat) : Sum (Int × Nat) (((Int → Int) × Nat) × Int) :=
  if isWB T (sk isSp T N p) (sk isLt T N (sk isSp T N p)) 1 = true then (match rHole T N d (sk isSp T N p) (sk isLt T N (sk isSp T N p)) with
    | .inl e => .inl e
    | .inr y => .inr (y, ht))
  else if isWB T (sk isSp T N p) (sk isLt T N (sk isSp T N p)) 2 = true then (match rLimit T N d (sk isLt T N (sk isSp T N p)) with
    | .inl e => .inl e
    | .inr y => .inr (y, ht))
  else if isWB T (sk isSp T N p) (sk isLt T N (sk isSp T N p)) 3 = true then (match rCost T N d (sk isLt T N (sk isSp T N p)) with
    | .inl e => .inl e
    | .inr y => .inr (y, ht))
  else if isWB T (sk isSp T N p) (sk isLt T N (sk isSp T N p)) 4 = true then (match rTune T N d ht (sk isSp T N p) (sk isLt T N (sk isSp T N p)) with
    | .inl e => .inl e
    | .inr y => .inr (y, 1))
  else .inl (1, sk isSp T N p)
theorem readStatement_ok {N p : Nat} {st ht : Int} {d : Int → Int} (hT : TX (σ 10) N) (h : PSt σ N st ht (d, p) τ) (hht : ht = 0 ∨ ht = 1) : Fn g zX2_readStatement 0 0 [.ref 9] τ l (Ry l (PFt σ N st) (fun y ρ => PSt σ N st y.2 y.1 ρ ∧ (y.2 = 0 ∨ y.2 = 1)) (rStm (σ 10) N d ht p)) := by
  have hle : p ≤ N := h.le
  have hs := sk_le (Q := isSp) (T := σ 10) hle
  have hs2 := sk_le (Q := isLt) (T := σ 10) hs.2
  refine Fn.of [some (.ref 9)] rfl (by decide) (Nat.le_of_ble_eq_true rfl) rfl ?_
  refine g_aload0 dX2_readStatement_0 ?_
  refine f_cV0d (readWord_ok (p := p) hT h.len h.txt h.pos h.le) rfl (by decide) rfl oY_X2_readWord oI_X2_readWord lk_X2_114 rfl dX2_readStatement_1 rfl (Or.inl rfl) ?_
  have hW9 : N9 τ (up (up τ 9 7 ((sk isSp (σ 10) N p) : Int)) 9 6 ((sk isLt (σ 10) N (sk isSp (σ 10) N p)) : Int)) := ((N9.refl τ).up (by decide)).up (by decide)
  have hW : PSt σ N st ht (d, (sk isLt (σ 10) N (sk isSp (σ 10) N p))) (up (up τ 9 7 ((sk isSp (σ 10) N p) : Int)) 9 6 ((sk isLt (σ 10) N (sk isSp (σ 10) N p)) : Int)) := h.n9 hW9 (by rw [up_ne (by decide), up_ne (by decide)]) (by rw [up_ne (by decide), up_ne (by decide)]) up_eq hs2.2
  have hW7 : (up (up τ 9 7 ((sk isSp (σ 10) N p) : Int)) 9 6 ((sk isLt (σ 10) N (sk isSp (σ 10) N p)) : Int)) 9 7 = ((sk isSp (σ 10) N p) : Int) := by rw [up_ne (by decide), up_eq]
  refine g_aload0 dX2_readStatement_4 ?_
  refine g_ldcS ks_X2_134 dX2_readStatement_5 ?_
  refine f_cV1w (isWord_b (i := 1) (q := (sk isSp (σ 10) N p)) (e := (sk isLt (σ 10) N (sk isSp (σ 10) N p))) hT hW.txt hW.pos hW7 ⟨hs2.1, hs2.2⟩ (by decide)) rfl (by decide) rfl oY_X2_isWord oI_X2_isWord lk_X2_119 rfl dX2_readStatement_7 rfl (Or.inl rfl) ?_
  refine g_ifeqB (tgt := 18) dX2_readStatement_10 rfl (fun h10 => ?_) (fun h10 => ?_)
  · refine g_aload0 dX2_readStatement_18 ?_
    refine g_ldcS ks_X2_139 dX2_readStatement_19 ?_
    refine f_cV1w (isWord_b (i := 2) (q := (sk isSp (σ 10) N p)) (e := (sk isLt (σ 10) N (sk isSp (σ 10) N p))) hT hW.txt hW.pos hW7 ⟨hs2.1, hs2.2⟩ (by decide)) rfl (by decide) rfl oY_X2_isWord oI_X2_isWord lk_X2_119 rfl dX2_readStatement_21 rfl (Or.inl rfl) ?_
    refine g_ifeqB (tgt := 32) dX2_readStatement_24 rfl (fun h24 => ?_) (fun h24 => ?_)
    · refine g_aload0 dX2_readStatement_32 ?_
      refine g_ldcS ks_X2_144 dX2_readStatement_33 ?_
      refine f_cV1w (isWord_b (i := 3) (q := (sk isSp (σ 10) N p)) (e := (sk isLt (σ 10) N (sk isSp (σ 10) N p))) hT hW.txt hW.pos hW7 ⟨hs2.1, hs2.2⟩ (by decide)) rfl (by decide) rfl oY_X2_isWord oI_X2_isWord lk_X2_119 rfl dX2_readStatement_35 rfl (Or.inl rfl) ?_
      refine g_ifeqB (tgt := 46) dX2_readStatement_38 rfl (fun h38 => ?_) (fun h38 => ?_)
      · refine g_aload0 dX2_readStatement_46 ?_
        refine g_ldcS ks_X2_149 dX2_readStatement_47 ?_
        refine f_cV1w (isWord_b (i := 4) (q := (sk isSp (σ 10) N p)) (e := (sk isLt (σ 10) N (sk isSp (σ 10) N p))) hT hW.txt hW.pos hW7 ⟨hs2.1, hs2.2⟩ (by decide)) rfl (by decide) rfl oY_X2_isWord oI_X2_isWord lk_X2_119 rfl dX2_readStatement_49 rfl (Or.inl rfl) ?_
        refine g_ifeqB (tgt := 60) dX2_readStatement_52 rfl (fun h52 => ?_) (fun h52 => ?_)
        · refine g_aload0 dX2_readStatement_60 ?_
          refine g_iconst dX2_readStatement_61 ?_
          refine g_aload0 dX2_readStatement_62 ?_
          refine f_geti (J := 7) rfl (by decide) rfl rfl fl_X2_38 dX2_readStatement_63 ?_
          rw [hW7]
          refine f_cV2x (fail_ok) rfl (by decide) rfl oY_X2_fail oI_X2_fail lk_X2_89 rfl dX2_readStatement_66 rfl (Or.inl rfl) ?_
          refine g_iretB (Or.inl rfl) rfl dX2_readStatement_69 ?_
          exact Ry.no (by unfold rStm; rw [if_neg h10, if_neg h24, if_neg h38, if_neg h52]) (hW.fail n9_fail (by rw [up_ne (by decide), up_eq]) up_eq)
        · refine g_aload0 dX2_readStatement_55 ?_
          refine f_cV0n (readTune_ok hT hW hW7 hht) rfl (by decide) rfl oY_X2_readTune oI_X2_readTune lk_X2_151 rfl dX2_readStatement_56 (Nat.zero_le _) (Nat.zero_le _) rfl (Or.inl rfl) (fun v56 σ56 l56 h56 => ?_) (fun e56 σ56 l56 h56 => ?_)
          · obtain ⟨e56, y56⟩ := Ry.split h56
            subst e56
            rcases y56 with ⟨k56, r56, rfl, A56⟩ | ⟨q56, r56, rfl, B56⟩
            · show GW g _ _ _ _ _ _ (iv 0 :: _) _
              refine g_iretB (Or.inl rfl) rfl dX2_readStatement_59 ?_
              first
                | exact Ry.no (by unfold rStm; rw [if_neg h10, if_neg h24, if_neg h38, if_pos h52]; simp only [r56]) A56
                | exact Ry.yes (q := (q56, 1)) (by unfold rStm; rw [if_neg h10, if_neg h24, if_neg h38, if_pos h52]; simp only [r56]) ⟨B56, Or.inr rfl⟩
            · show GW g _ _ _ _ _ _ (iv 1 :: _) _
              refine g_iretB (Or.inr rfl) rfl dX2_readStatement_59 ?_
              first
                | exact Ry.no (by unfold rStm; rw [if_neg h10, if_neg h24, if_neg h38, if_pos h52]; simp only [r56]) A56
                | exact Ry.yes (q := (q56, 1)) (by unfold rStm; rw [if_neg h10, if_neg h24, if_neg h38, if_pos h52]; simp only [r56]) ⟨B56, Or.inr rfl⟩
          · exact (Ry.nx h56).elim
      · refine g_aload0 dX2_readStatement_41 ?_
        refine f_cV0n (readCost_ok hT hW) rfl (by decide) rfl oY_X2_readCost oI_X2_readCost lk_X2_146 rfl dX2_readStatement_42 (Nat.zero_le _) (Nat.zero_le _) rfl (Or.inl rfl) (fun v42 σ42 l42 h42 => ?_) (fun e42 σ42 l42 h42 => ?_)
        · obtain ⟨e42, y42⟩ := Ry.split h42
          subst e42
          rcases y42 with ⟨k42, r42, rfl, A42⟩ | ⟨q42, r42, rfl, B42⟩
          · show GW g _ _ _ _ _ _ (iv 0 :: _) _
            refine g_iretB (Or.inl rfl) rfl dX2_readStatement_45 ?_
            first
              | exact Ry.no (by unfold rStm; rw [if_neg h10, if_neg h24, if_pos h38]; simp only [r42]) A42
              | exact Ry.yes (q := (q42, ht)) (by unfold rStm; rw [if_neg h10, if_neg h24, if_pos h38]; simp only [r42]) ⟨B42, hht⟩
          · show GW g _ _ _ _ _ _ (iv 1 :: _) _
            refine g_iretB (Or.inr rfl) rfl dX2_readStatement_45 ?_
            first
              | exact Ry.no (by unfold rStm; rw [if_neg h10, if_neg h24, if_pos h38]; simp only [r42]) A42
              | exact Ry.yes (q := (q42, ht)) (by unfold rStm; rw [if_neg h10, if_neg h24, if_pos h38]; simp only [r42]) ⟨B42, hht⟩
        · exact (Ry.nx h42).elim
    · refine g_aload0 dX2_readStatement_27 ?_
      refine f_cV0n (readLimit_ok hT hW) rfl (by decide) rfl oY_X2_readLimit oI_X2_readLimit lk_X2_141 rfl dX2_readStatement_28 (Nat.zero_le _) (Nat.zero_le _) rfl (Or.inl rfl) (fun v28 σ28 l28 h28 => ?_) (fun e28 σ28 l28 h28 => ?_)
      · obtain ⟨e28, y28⟩ := Ry.split h28
        subst e28
        rcases y28 with ⟨k28, r28, rfl, A28⟩ | ⟨q28, r28, rfl, B28⟩
        · show GW g _ _ _ _ _ _ (iv 0 :: _) _
          refine g_iretB (Or.inl rfl) rfl dX2_readStatement_31 ?_
          first
            | exact Ry.no (by unfold rStm; rw [if_neg h10, if_pos h24]; simp only [r28]) A28
            | exact Ry.yes (q := (q28, ht)) (by unfold rStm; rw [if_neg h10, if_pos h24]; simp only [r28]) ⟨B28, hht⟩
        · show GW g _ _ _ _ _ _ (iv 1 :: _) _
          refine g_iretB (Or.inr rfl) rfl dX2_readStatement_31 ?_
          first
            | exact Ry.no (by unfold rStm; rw [if_neg h10, if_pos h24]; simp only [r28]) A28
            | exact Ry.yes (q := (q28, ht)) (by unfold rStm; rw [if_neg h10, if_pos h24]; simp only [r28]) ⟨B28, hht⟩
      · exact (Ry.nx h28).elim
  · refine g_aload0 dX2_readStatement_13 ?_
    refine f_cV0n (readHole_ok hT hW hW7) rfl (by decide) rfl oY_X2_readHole oI_X2_readHole lk_X2_136 rfl dX2_readStatement_14 (Nat.zero_le _) (Nat.zero_le _) rfl (Or.inl rfl) (fun v14 σ14 l14 h14 => ?_) (fun e14 σ14 l14 h14 => ?_)
    · obtain ⟨e14, y14⟩ := Ry.split h14
      subst e14
      rcases y14 with ⟨k14, r14, rfl, A14⟩ | ⟨q14, r14, rfl, B14⟩
      · show GW g _ _ _ _ _ _ (iv 0 :: _) _
        refine g_iretB (Or.inl rfl) rfl dX2_readStatement_17 ?_
        first
          | exact Ry.no (by unfold rStm; rw [if_pos h10]; simp only [r14]) A14
          | exact Ry.yes (q := (q14, ht)) (by unfold rStm; rw [if_pos h10]; simp only [r14]) ⟨B14, hht⟩
      · show GW g _ _ _ _ _ _ (iv 1 :: _) _
        refine g_iretB (Or.inr rfl) rfl dX2_readStatement_17 ?_
        first
          | exact Ry.no (by unfold rStm; rw [if_pos h10]; simp only [r14]) A14
          | exact Ry.yes (q := (q14, ht)) (by unfold rStm; rw [if_pos h10]; simp only [r14]) ⟨B14, hht⟩
    · exact (Ry.nx h14).elim
def rLp (T : Int → Int) (N : Nat) : Nat → (Int → Int) → Nat → Int → Int → Sum (Int × Nat × Int) (Int → Int)
  | 0, d, _, _, _ => .inr d
  | f + 1, d, p, ht, st =>
    if N ≤ sk isSp T N p then .inr d
    else if sgn T N (sk isSp T N p) = 59 then (match rStm T N d ht (sk isSp T N p + 1) with
      | .inl e => .inl (e.1, e.2, st + 1)
      | .inr y => rLp T N f y.1.1 y.1.2 y.2 (st + 1))
    else .inl (1, sk isSp T N p, st)
def rAll (T : Int → Int) (N : Nat) : Sum (Int × Nat × Int) (Int → Int) := match rWh T N with
  | .inl e => .inl (e.1, e.2, 0)
  | .inr y => rLp T N 400 y.1 y.2 0 0
def rdA (σ : sT) (N : Nat) (e : Int × Nat × Int) (τ : sT) : Prop := PFt σ N e.2.2 (e.1, e.2.1) τ
def rdB (σ : sT) (N : Nat) (d : Int → Int) (τ : sT) : Prop := ∃ (st ht : Int) (p : Nat), PSt σ N st ht (d, p) τ
theorem read_bad {N : Nat} {i : Int} {e : Int × Nat × Int} {r : Sum (Int × Nat × Int) (Int → Int)} (hi : 0 ≤ i ∧ i ≤ 400) (hr : r = .inl e) (hA : rdA σ N e τ) : FW g zX2_read 0 0 (Ry l (rdA σ N) (rdB σ N) (r)) 39 [some (.ref 9), some (iv 0), some (iv i)] [] τ l := by
  refine g_iload2 dX2_read_39 ?_
  refine g_sipush dX2_read_40 (by decide) ?_
  refine g_icmp_ge ⟨by omega, by omega⟩ ⟨by decide, by decide⟩ (tgt := 83) dX2_read_43 rfl (fun h43 => ?_) (fun h43 => ?_)
  · refine g_iload1 dX2_read_83 ?_
    refine g_iretB (Or.inl rfl) rfl dX2_read_84 ?_
    exact Ry.no hr hA
  · refine g_iload1 dX2_read_46 ?_
    refine g_if_eq ⟨by decide, by decide⟩ (tgt := 83) dX2_read_47 rfl (fun h47 => ?_) (fun h47 => absurd h47 (by decide))
    refine g_iload1 dX2_read_83 ?_
    refine g_iretB (Or.inl rfl) rfl dX2_read_84 ?_
    exact Ry.no hr hA
theorem read_l {N : Nat} (hT : TX (σ 10) N) : ∀ f : Nat, f ≤ 400 → ∀ (τ : sT) (d : Int → Int) (p : Nat) (ht st i : Int), PSt σ N st ht (d, p) τ → (ht = 0 ∨ ht = 1) → i = 400 - (f : Int) → FW g zX2_read 0 0 (Ry l (rdA σ N) (rdB σ N) (rLp (σ 10) N f d p ht st)) 39 [some (.ref 9), some (iv 1), some (iv i)] [] τ l := by
  intro f
  induction f with
  | zero =>
    intro _ τ d p ht st i h hht hi
    refine g_iload2 dX2_read_39 ?_
    refine g_sipush dX2_read_40 (by decide) ?_
    refine g_icmp_ge ⟨by omega, by omega⟩ ⟨by decide, by decide⟩ (tgt := 83) dX2_read_43 rfl (fun h43 => ?_) (fun h43 => absurd h43 (by omega))
    refine g_iload1 dX2_read_83 ?_
    refine g_iretB (Or.inr rfl) rfl dX2_read_84 ?_
    exact Ry.yes rfl ⟨st, ht, p, h⟩
  | succ f ih =>
    intro hf τ d p ht st i h hht hi
    have hle : p ≤ N := h.le
    have hs := sk_le (Q := isSp) (T := σ 10) hle
    have hn9 : N9 τ (up τ 9 6 ((sk isSp (σ 10) N p) : Int)) := (N9.refl τ).up (by decide)
    have hK : PSt σ N st ht (d, (sk isSp (σ 10) N p)) (up τ 9 6 ((sk isSp (σ 10) N p) : Int)) := h.n9 hn9 (by rw [up_ne (by decide)]) (by rw [up_ne (by decide)]) up_eq hs.2
    refine g_iload2 dX2_read_39 ?_
    refine g_sipush dX2_read_40 (by decide) ?_
    refine g_icmp_ge ⟨by omega, by omega⟩ ⟨by decide, by decide⟩ (tgt := 83) dX2_read_43 rfl (fun h43 => absurd h43 (by omega)) (fun h43 => ?_)
    refine g_iload1 dX2_read_46 ?_
    refine g_if_eq ⟨by decide, by decide⟩ (tgt := 83) dX2_read_47 rfl (fun h47 => absurd h47 (by decide)) (fun h47 => ?_)
    refine g_aload0 dX2_read_50 ?_
    refine f_cV0x (isAtEnd_ok (p := p) hT h.len h.txt h.pos h.le) rfl (by decide) rfl oY_X2_isAtEnd oI_X2_isAtEnd lk_X2_67 rfl dX2_read_51 rfl (Or.inl rfl) ?_
    refine g_ifneB (tgt := 83) dX2_read_54 rfl (fun h54 => ?_) (fun h54 => ?_)
    · refine g_iload1 dX2_read_83 ?_
      refine g_iretB (Or.inr rfl) rfl dX2_read_84 ?_
      exact Ry.yes (by rw [rLp, if_pos h54]) ⟨st, ht, _, hK⟩
    · refine g_aload0 dX2_read_57 ?_
      refine f_cV0n (readSemicolon_ok hT hK) rfl (by decide) rfl oY_X2_readSemicolon oI_X2_readSemicolon lk_X2_70 rfl dX2_read_58 (Nat.zero_le _) (Nat.zero_le _) rfl (Or.inl rfl) (fun v58 σ58 l58 h58 => ?_) (fun e58 σ58 l58 h58 => ?_)
      · obtain ⟨e58, y58⟩ := Ry.split h58
        subst e58
        rcases y58 with ⟨k58, r58, rfl, A58⟩ | ⟨q58, r58, rfl, B58⟩
        · show GW g _ _ _ _ _ _ (iv 0 :: _) _
          refine g_if_eq ⟨by decide, by decide⟩ (tgt := 75) dX2_read_61 rfl (fun h61 => ?_) (fun h61 => absurd h61 (by decide))
          refine g_iconst dX2_read_75 ?_
          refine g_istore1 dX2_read_76 rfl (by decide) ?_
          refine g_iinc2 dX2_read_77 rfl (by decide) ?_
          refine g_goto (tgt := 39) dX2_read_80 rfl ?_
          have h59 : ¬ N ≤ sk isSp (σ 10) N p := h54
          have hsm : rSm (σ 10) N (sk isSp (σ 10) N p) = if sgn (σ 10) N (sk isSp (σ 10) N p) = 59 then .inr () else .inl (1, sk isSp (σ 10) N p) := rfl
          rw [r58] at hsm
          first
            | (have hc : sgn (σ 10) N (sk isSp (σ 10) N p) ≠ 59 := fun z => by rw [if_pos z] at hsm; cases hsm
               rw [if_neg hc] at hsm
               cases hsm
               exact read_bad (e := (1, sk isSp (σ 10) N p, st)) (by omega) (by rw [rLp, if_neg h59, if_neg hc]) A58)
            | (have hc : sgn (σ 10) N (sk isSp (σ 10) N p) = 59 := Classical.byContradiction fun z => by rw [if_neg z] at hsm; cases hsm
               exact read_bad (e := (k65.1, k65.2, st + 1)) (by omega) (by rw [rLp, if_neg h59, if_pos hc, r65]) A65)
            | (have hc : sgn (σ 10) N (sk isSp (σ 10) N p) = 59 := Classical.byContradiction fun z => by rw [if_neg z] at hsm; cases hsm
               have e0 : rLp (σ 10) N (f + 1) d p ht st = rLp (σ 10) N f q65.1.1 q65.1.2 q65.2 (st + 1) := by rw [rLp, if_neg h59, if_pos hc, r65]
               rw [e0]
               exact ih (by omega) _ q65.1.1 q65.1.2 q65.2 (st + 1) _ B65.1 B65.2 (by omega))
        · show GW g _ _ _ _ _ _ (iv 1 :: _) _
          refine g_if_eq ⟨by decide, by decide⟩ (tgt := 75) dX2_read_61 rfl (fun h61 => absurd h61 (by decide)) (fun h61 => ?_)
          refine g_aload0 dX2_read_64 ?_
          refine f_cV0n (readStatement_ok hT B58 hht) rfl (by decide) rfl oY_X2_readStatement oI_X2_readStatement lk_X2_73 rfl dX2_read_65 (Nat.zero_le _) (Nat.zero_le _) rfl (Or.inl rfl) (fun v65 σ65 l65 h65 => ?_) (fun e65 σ65 l65 h65 => ?_)
          · obtain ⟨e65, y65⟩ := Ry.split h65
            subst e65
            rcases y65 with ⟨k65, r65, rfl, A65⟩ | ⟨q65, r65, rfl, B65⟩
            · show GW g _ _ _ _ _ _ (iv 0 :: _) _
              refine g_if_eq ⟨by decide, by decide⟩ (tgt := 75) dX2_read_68 rfl (fun h68 => ?_) (fun h68 => absurd h68 (by decide))
              refine g_iconst dX2_read_75 ?_
              refine g_istore1 dX2_read_76 rfl (by decide) ?_
              refine g_iinc2 dX2_read_77 rfl (by decide) ?_
              refine g_goto (tgt := 39) dX2_read_80 rfl ?_
              have h59 : ¬ N ≤ sk isSp (σ 10) N p := h54
              have hsm : rSm (σ 10) N (sk isSp (σ 10) N p) = if sgn (σ 10) N (sk isSp (σ 10) N p) = 59 then .inr () else .inl (1, sk isSp (σ 10) N p) := rfl
              rw [r58] at hsm
              first
                | (have hc : sgn (σ 10) N (sk isSp (σ 10) N p) ≠ 59 := fun z => by rw [if_pos z] at hsm; cases hsm
                   rw [if_neg hc] at hsm
                   cases hsm
                   exact read_bad (e := (1, sk isSp (σ 10) N p, st)) (by omega) (by rw [rLp, if_neg h59, if_neg hc]) A58)
                | (have hc : sgn (σ 10) N (sk isSp (σ 10) N p) = 59 := Classical.byContradiction fun z => by rw [if_neg z] at hsm; cases hsm
                   exact read_bad (e := (k65.1, k65.2, st + 1)) (by omega) (by rw [rLp, if_neg h59, if_pos hc, r65]) A65)
                | (have hc : sgn (σ 10) N (sk isSp (σ 10) N p) = 59 := Classical.byContradiction fun z => by rw [if_neg z] at hsm; cases hsm
                   have e0 : rLp (σ 10) N (f + 1) d p ht st = rLp (σ 10) N f q65.1.1 q65.1.2 q65.2 (st + 1) := by rw [rLp, if_neg h59, if_pos hc, r65]
                   rw [e0]
                   exact ih (by omega) _ q65.1.1 q65.1.2 q65.2 (st + 1) _ B65.1 B65.2 (by omega))
            · show GW g _ _ _ _ _ _ (iv 1 :: _) _
              refine g_if_eq ⟨by decide, by decide⟩ (tgt := 75) dX2_read_68 rfl (fun h68 => absurd h68 (by decide)) (fun h68 => ?_)
              refine g_iconst dX2_read_71 ?_
              refine g_goto (tgt := 76) dX2_read_72 rfl ?_
              refine g_istore1 dX2_read_76 rfl (by decide) ?_
              refine g_iinc2 dX2_read_77 rfl (by decide) ?_
              refine g_goto (tgt := 39) dX2_read_80 rfl ?_
              have h59 : ¬ N ≤ sk isSp (σ 10) N p := h54
              have hsm : rSm (σ 10) N (sk isSp (σ 10) N p) = if sgn (σ 10) N (sk isSp (σ 10) N p) = 59 then .inr () else .inl (1, sk isSp (σ 10) N p) := rfl
              rw [r58] at hsm
              first
                | (have hc : sgn (σ 10) N (sk isSp (σ 10) N p) ≠ 59 := fun z => by rw [if_pos z] at hsm; cases hsm
                   rw [if_neg hc] at hsm
                   cases hsm
                   exact read_bad (e := (1, sk isSp (σ 10) N p, st)) (by omega) (by rw [rLp, if_neg h59, if_neg hc]) A58)
                | (have hc : sgn (σ 10) N (sk isSp (σ 10) N p) = 59 := Classical.byContradiction fun z => by rw [if_neg z] at hsm; cases hsm
                   exact read_bad (e := (k65.1, k65.2, st + 1)) (by omega) (by rw [rLp, if_neg h59, if_pos hc, r65]) A65)
                | (have hc : sgn (σ 10) N (sk isSp (σ 10) N p) = 59 := Classical.byContradiction fun z => by rw [if_neg z] at hsm; cases hsm
                   have e0 : rLp (σ 10) N (f + 1) d p ht st = rLp (σ 10) N f q65.1.1 q65.1.2 q65.2 (st + 1) := by rw [rLp, if_neg h59, if_pos hc, r65]
                   rw [e0]
                   exact ih (by omega) _ q65.1.1 q65.1.2 q65.2 (st + 1) _ B65.1 B65.2 (by omega))
          · exact (Ry.nx h65).elim
      · exact (Ry.nx h58).elim
theorem read_ok {N : Nat} (hT : TX (σ 10) N) (h1 : σ 9 1 = (N : Int)) : Fn g zX2_read 0 0 [.ref 9] σ l (Ry l (rdA σ N) (rdB σ N) (rAll (σ 10) N)) := by
  have hz : PW σ N 0 (σ 11 0) (σ 11 1) (σ 11 2) (bgSt (up (up (up (up (up σ 9 2 0) 9 3 0) 9 4 0) 9 6 0) 9 9 0) 11) := by
    refine ⟨fun z z0 z1 => ?_, ?_, ?_, ?_, ?_, ?_, ?_, ?_, Nat.zero_le _⟩
    · rw [bgSt_n (by omega), up_n z0, up_n z0, up_n z0, up_n z0, up_n z0]
    · rw [bgSt_n (by decide), up_ne (by decide), up_ne (by decide), up_ne (by decide), up_ne (by decide), up_ne (by decide)]; exact h1
    · rw [bgSt_n (by decide), up_ne (by decide), up_ne (by decide), up_ne (by decide), up_ne (by decide), up_eq]
    · rw [bgSt_n (by decide), up_ne (by decide), up_ne (by decide), up_ne (by decide), up_eq]
    · rw [bgSt_n (by decide), up_ne (by decide), up_ne (by decide), up_eq]
    · rw [bgSt_n (by decide), up_ne (by decide), up_eq]; rfl
    · rw [bgSt_n (by decide), up_eq]
    · exact bgSt_c (σ := up (up (up (up (up σ 9 2 0) 9 3 0) 9 4 0) 9 6 0) 9 9 0) 11
  refine Fn.of [some (.ref 9), none, none] rfl (by decide) (Nat.le_of_ble_eq_true rfl) rfl ?_
  refine g_aload0 dX2_read_0 ?_
  refine g_iconst dX2_read_1 ?_
  refine f_puti (J := 2) rfl (by decide) rfl rfl fl_X2_19 rfl (fun _ _ _ h => by cases h; rfl) dX2_read_2 ?_
  refine g_aload0 dX2_read_5 ?_
  refine g_iconst dX2_read_6 ?_
  refine f_puti (J := 3) rfl (by decide) rfl rfl fl_X2_22 rfl (fun _ _ _ h => by cases h; rfl) dX2_read_7 ?_
  refine g_aload0 dX2_read_10 ?_
  refine g_iconst dX2_read_11 ?_
  refine f_puti (J := 4) rfl (by decide) rfl rfl fl_X2_25 rfl (fun _ _ _ h => by cases h; rfl) dX2_read_12 ?_
  refine g_aload0 dX2_read_15 ?_
  refine g_iconst dX2_read_16 ?_
  refine f_puti (J := 6) rfl (by decide) rfl rfl fl_X2_35 rfl (fun _ _ _ h => by cases h; rfl) dX2_read_17 ?_
  refine g_aload0 dX2_read_20 ?_
  refine g_iconst dX2_read_21 ?_
  refine f_putz (J := 9) (by decide) rfl (by decide) rfl rfl fl_X2_44 rfl (fun _ _ _ h => by cases h; rfl) dX2_read_22 ?_
  refine g_aload0 dX2_read_25 ?_
  refine f_getr (r := 11) rfl (by decide) rfl rfl fl_X2_31 dX2_read_26 ?_
  refine f_cV0d (beginAnew_ok isSt11) rfl (by decide) rfl oY_X3_beginAnew oI_X3_beginAnew lk_X2_60 rfl dX2_read_29 rfl (Or.inl rfl) ?_
  refine g_aload0 dX2_read_32 ?_
  refine f_cV0n (readWhistle_ok hT hz) rfl (by decide) rfl oY_X2_readWhistle oI_X2_readWhistle lk_X2_63 rfl dX2_read_33 (Nat.zero_le _) (Nat.zero_le _) rfl (Or.inl rfl) (fun v33 σ33 l33 h33 => ?_) (fun e33 σ33 l33 h33 => ?_)
  · obtain ⟨e33, y33⟩ := Ry.split h33
    subst e33
    rcases y33 with ⟨k33, r33, rfl, A33⟩ | ⟨q33, r33, rfl, B33⟩
    · show GW g _ _ _ _ _ _ (iv 0 :: _) _
      refine g_istore1 dX2_read_36 rfl (by decide) ?_
      refine g_iconst dX2_read_37 ?_
      refine g_istore2 dX2_read_38 rfl (by decide) ?_
      first
        | exact read_bad (e := (k33.1, k33.2, 0)) ⟨by decide, by decide⟩ (by unfold rAll; rw [r33]) A33
        | (have e0 : rAll (σ 10) N = rLp (σ 10) N 400 q33.1 q33.2 0 0 := by unfold rAll; rw [r33]
           rw [e0]
           exact read_l hT 400 (Nat.le_refl _) _ q33.1 q33.2 0 0 _ B33 (Or.inl rfl) rfl)
    · show GW g _ _ _ _ _ _ (iv 1 :: _) _
      refine g_istore1 dX2_read_36 rfl (by decide) ?_
      refine g_iconst dX2_read_37 ?_
      refine g_istore2 dX2_read_38 rfl (by decide) ?_
      first
        | exact read_bad (e := (k33.1, k33.2, 0)) ⟨by decide, by decide⟩ (by unfold rAll; rw [r33]) A33
        | (have e0 : rAll (σ 10) N = rLp (σ 10) N 400 q33.1 q33.2 0 0 := by unfold rAll; rw [r33]
           rw [e0]
           exact read_l hT 400 (Nat.le_refl _) _ q33.1 q33.2 0 0 _ B33 (Or.inl rfl) rfl)
  · exact (Ry.nx h33).elim
end C64
