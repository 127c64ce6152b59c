/-! The reader: parts, the tune, statements -/
section C63
variable {g : gT} {σ τ : sT} {l : Nat → Nat}
abbrev TY := ((Int → Int) × Nat) × Nat × (Nat → Int)
def rPart (T : Int → Int) (N : Nat) (d : Int → Int) (p o : Nat) (b : Nat → Int) (c : Int) : Sum (Int × Nat) TY :=
  if c = 40 then rOpen d p o b
  else if c = 41 then rClose T N d p o b
  else if isDg c = true then (match rNum T N 0 24 p with
    | .inl e => .inl e
    | .inr (v, e) => match rNote d (sk isSp T N p) v with
      | .inl x => .inl x
      | .inr d2 => .inr ((d2, e), o, b))
  else if isWB T (sk isSp T N p) (sk isLt T N (sk isSp T N p)) 5 = true then (match rNote d (sk isSp T N p) (-1) with
    | .inl x => .inl x
    | .inr d2 => .inr ((d2, sk isLt T N (sk isSp T N p)), o, b))
  else .inl (1, sk isSp T N p)
theorem rNote_9 {d d2 : Int → Int} {q : Nat} {t : Int} (h : rNote d q t = .inr d2) : d 9 ≤ d2 9 := by
  unfold rNote at h
  split at h
  · cases h
  · cases h; rw [adS_9]; omega
theorem readRest_ok {N p o : Nat} {st ht : Int} {d : Int → Int} {b : Nat → Int} (hT : TX (σ 10) N) (h : TSt σ N st ht ((d, p), o, b) τ) {c : Int} (h3 : ¬ c = 40) (h14 : ¬ c = 41) (h26 : ¬ isDg c = true) : Fn g zX2_readRest 0 0 [.ref 9] τ l (Ry l (PFt σ N st) (TSt σ N st ht) (rPart (σ 10) N d p o b c)) := by
  have hP := h.p
  have c1 := hP.c
  have o1 := hP.s
  have ho3 := o1.holes
  have hn := o1.notes
  have ho := h.o
  have ho4 := h.o4
  have hle : p ≤ N := hP.le
  have hN := hT.1
  have hs := sk_le (Q := isSp) (T := σ 10) hle
  have hs2 := sk_le (Q := isLt) (T := σ 10) hs.2
  refine Fn.of [some (.ref 9)] rfl (by decide) (Nat.le_of_ble_eq_true rfl) rfl ?_
  refine g_aload0 dX2_readRest_0 ?_
  refine f_cV0d (readWord_ok hT hP.len hP.txt hP.pos hP.le) rfl (by decide) rfl oY_X2_readWord oI_X2_readWord lk_X2_114 rfl dX2_readRest_1 rfl (Or.inl rfl) ?_
  have hW9 : N9 τ (up (up τ 9 7 ((sk isSp (σ 10) N p) : Int)) 9 6 ((sk isLt (σ 10) N (sk isSp (σ 10) N p)) : Int)) := ((N9.refl τ).up (by decide)).up (by decide)
  have hW : PSt σ N st ht (d, (sk isLt (σ 10) N (sk isSp (σ 10) N p))) (up (up τ 9 7 ((sk isSp (σ 10) N p) : Int)) 9 6 ((sk isLt (σ 10) N (sk isSp (σ 10) N p)) : Int)) := hP.n9 hW9 (by rw [up_ne (by decide), up_ne (by decide)]) (by rw [up_ne (by decide), up_ne (by decide)]) up_eq hs2.2
  have hW7 : (up (up τ 9 7 ((sk isSp (σ 10) N p) : Int)) 9 6 ((sk isLt (σ 10) N (sk isSp (σ 10) N p)) : Int)) 9 7 = ((sk isSp (σ 10) N p) : Int) := by rw [up_ne (by decide), up_eq]
  refine g_aload0 dX2_readRest_4 ?_
  refine g_ldcS ks_X2_190 dX2_readRest_5 ?_
  refine f_cV1w (isWord_b (i := 5) (q := (sk isSp (σ 10) N p)) (e := (sk isLt (σ 10) N (sk isSp (σ 10) N p))) hT hW.txt hW.pos hW7 ⟨hs2.1, hs2.2⟩ (by decide)) rfl (by decide) rfl oY_X2_isWord oI_X2_isWord lk_X2_119 rfl dX2_readRest_7 rfl (Or.inl rfl) ?_
  refine g_ifeqB (tgt := 21) dX2_readRest_10 rfl (fun h10 => ?_) (fun h10 => ?_)
  · refine g_aload0 dX2_readRest_21 ?_
    refine g_iconst dX2_readRest_22 ?_
    refine g_aload0 dX2_readRest_23 ?_
    refine f_geti (J := 7) rfl (by decide) rfl rfl fl_X2_38 dX2_readRest_24 ?_
    rw [hW7]
    refine f_cV2x (fail_ok) rfl (by decide) rfl oY_X2_fail oI_X2_fail lk_X2_89 rfl dX2_readRest_27 rfl (Or.inl rfl) ?_
    refine g_iretB (Or.inl rfl) rfl dX2_readRest_30 ?_
    first
      | exact Ry.no (by unfold rPart; rw [if_neg h3, if_neg h14, if_neg h26, if_pos h10]; simp only [r15]) A15
      | exact Ry.yes (by unfold rPart; rw [if_neg h3, if_neg h14, if_neg h26, if_pos h10]; simp only [r15]) ((h.n9 hW9 hW).nt B15.1 B15.2 (rNote_9 r15))
      | exact Ry.no (by unfold rPart; rw [if_neg h3, if_neg h14, if_neg h26, if_neg h10]) (hW.fail n9_fail (by rw [up_ne (by decide), up_eq]) up_eq)
  · refine g_aload0 dX2_readRest_13 ?_
    refine g_iconst dX2_readRest_14 ?_
    refine f_cV1n (takeNote_ok (t := -1) hW hW7 ⟨by decide, by decide⟩) rfl (by decide) rfl oY_X2_takeNote oI_X2_takeNote lk_X2_178 rfl dX2_readRest_15 (Nat.zero_le _) (Nat.zero_le _) rfl (Or.inl rfl) (fun v15 σ15 l15 h15 => ?_) (fun e15 σ15 l15 h15 => ?_)
    · obtain ⟨e15, y15⟩ := Ry.split h15
      subst e15
      rcases y15 with ⟨k15, r15, rfl, A15⟩ | ⟨q15, r15, rfl, B15⟩
      · show GW g _ _ _ _ _ _ (iv 0 :: _) _
        refine g_goto (tgt := 30) dX2_readRest_18 rfl ?_
        refine g_iretB (Or.inl rfl) rfl dX2_readRest_30 ?_
        first
          | exact Ry.no (by unfold rPart; rw [if_neg h3, if_neg h14, if_neg h26, if_pos h10]; simp only [r15]) A15
          | exact Ry.yes (by unfold rPart; rw [if_neg h3, if_neg h14, if_neg h26, if_pos h10]; simp only [r15]) ((h.n9 hW9 hW).nt B15.1 B15.2 (rNote_9 r15))
          | exact Ry.no (by unfold rPart; rw [if_neg h3, if_neg h14, if_neg h26, if_neg h10]) (hW.fail n9_fail (by rw [up_ne (by decide), up_eq]) up_eq)
      · show GW g _ _ _ _ _ _ (iv 1 :: _) _
        refine g_goto (tgt := 30) dX2_readRest_18 rfl ?_
        refine g_iretB (Or.inr rfl) rfl dX2_readRest_30 ?_
        first
          | exact Ry.no (by unfold rPart; rw [if_neg h3, if_neg h14, if_neg h26, if_pos h10]; simp only [r15]) A15
          | exact Ry.yes (by unfold rPart; rw [if_neg h3, if_neg h14, if_neg h26, if_pos h10]; simp only [r15]) ((h.n9 hW9 hW).nt B15.1 B15.2 (rNote_9 r15))
          | exact Ry.no (by unfold rPart; rw [if_neg h3, if_neg h14, if_neg h26, if_neg h10]) (hW.fail n9_fail (by rw [up_ne (by decide), up_eq]) up_eq)
    · exact (Ry.nx h15).elim
/-- whether a part of a tune begins so -/
def isPt (c : Int) : Bool := isDg c || isLt c || decide (c = 40)
def rTu (T : Int → Int) (N : Nat) : Nat → (Int → Int) → Nat → Nat → (Nat → Int) → Bool → Sum (Int × Nat) ((Int → Int) × Nat)
  | 0, _, p, _, _, _ => .inl (1, p)
  | f + 1, d, p, o, b, m =>
    if isPt (sgn T N (sk isSp T N p)) = false ∧ m = true then .inl (1, sk isSp T N p)
    else if isPt (sgn T N (sk isSp T N p)) = false ∧ sgn T N (sk isSp T N p) ≠ 41 then (if o = 0 then .inr (d, sk isSp T N p) else .inl (1, sk isSp T N p))
    else match rPart T N d (sk isSp T N p) o b (sgn T N (sk isSp T N p)) with
      | .inl e => .inl e
      | .inr (x, o2, b2) => rTu T N f x.1 x.2 o2 b2 (decide (sgn T N (sk isSp T N p) = 40))
def rTune (T : Int → Int) (N : Nat) (d : Int → Int) (ht : Int) (q p : Nat) : Sum (Int × Nat) ((Int → Int) × Nat) := if ht ≠ 0 then .inl (3, q) else rTu T N 400 d p 0 (fun _ => 0) true
/-- behind a part that failed -/
theorem tune_n {N : Nat} {st : Int} {e : Int × Nat} {r : Sum (Int × Nat) ((Int → Int) × Nat)} {nb i : Int} {u4 : Option Value} (hr : r = .inl e) (A : PFt σ N st e τ) (hi : R32 i) : FW g zX2_readTune 0 0 (Ry l (PFt σ N st) (PSt σ N st 1) r) 33 [some (.ref 9), some (iv nb), some (iv 0), some (iv i), u4] [] τ l := by
  refine g_iload3 dX2_readTune_33 ?_
  refine g_sipush dX2_readTune_34 (by decide) ?_
  refine g_icmp_ge hi ⟨by decide, by decide⟩ (tgt := 196) dX2_readTune_37 rfl (fun h37 => ?_) (fun h37 => ?_)
  · refine g_iload2 dX2_readTune_196 ?_
    refine g_if_eq ⟨by decide, by decide⟩ (tgt := 216) dX2_readTune_197 rfl (fun h197 => ?_) (fun h197 => absurd h197 (by decide))
    refine g_iconst dX2_readTune_216 ?_
    refine g_iretB (Or.inl rfl) rfl dX2_readTune_217 ?_
    exact Ry.no hr A
  · refine g_iload2 dX2_readTune_40 ?_
    refine g_if_eq ⟨by decide, by decide⟩ (tgt := 196) dX2_readTune_41 rfl (fun h41 => ?_) (fun h41 => absurd h41 (by decide))
    refine g_iload2 dX2_readTune_196 ?_
    refine g_if_eq ⟨by decide, by decide⟩ (tgt := 216) dX2_readTune_197 rfl (fun h197 => ?_) (fun h197 => absurd h197 (by decide))
    refine g_iconst dX2_readTune_216 ?_
    refine g_iretB (Or.inl rfl) rfl dX2_readTune_217 ?_
    exact Ry.no hr A
theorem tune_0 {N p o : Nat} {st : Int} {d : Int → Int} {b : Nat → Int} {m : Bool} {nb i : Int} {u4 : Option Value} (hT : TX (σ 10) N) (h : TSt σ N st 1 ((d, p), o, b) τ) (hi : i = 400) : FW g zX2_readTune 0 0 (Ry l (PFt σ N st) (PSt σ N st 1) (rTu (σ 10) N 0 d p o b m)) 33 [some (.ref 9), some (iv nb), some (iv 1), some (iv i), u4] [] τ l := by
  have hP := h.p
  subst hi
  refine g_iload3 dX2_readTune_33 ?_
  refine g_sipush dX2_readTune_34 (by decide) ?_
  refine g_icmp_ge ⟨by decide, by decide⟩ ⟨by decide, by decide⟩ (tgt := 196) dX2_readTune_37 rfl (fun h37 => ?_) (fun h37 => absurd h37 (by decide))
  refine g_iload2 dX2_readTune_196 ?_
  refine g_if_eq ⟨by decide, by decide⟩ (tgt := 216) dX2_readTune_197 rfl (fun h197 => absurd h197 (by decide)) (fun h197 => ?_)
  refine g_aload0 dX2_readTune_200 ?_
  refine g_iconst dX2_readTune_201 ?_
  refine g_aload0 dX2_readTune_202 ?_
  refine f_geti (J := 6) rfl (by decide) rfl rfl fl_X2_35 dX2_readTune_203 ?_
  rw [show τ 9 6 = (p : Int) from hP.pos]
  refine f_cV2x (fail_ok) rfl (by decide) rfl oY_X2_fail oI_X2_fail lk_X2_89 rfl dX2_readTune_206 rfl (Or.inl rfl) ?_
  refine g_if_eq ⟨by decide, by decide⟩ (tgt := 216) dX2_readTune_209 rfl (fun h209 => ?_) (fun h209 => absurd h209 (by decide))
  refine g_iconst dX2_readTune_216 ?_
  refine g_iretB (Or.inl rfl) rfl dX2_readTune_217 ?_
  exact Ry.no rfl (hP.fail n9_fail (by rw [up_ne (by decide), up_eq]) up_eq)
theorem tune_s {N f p o : Nat} {st : Int} {d : Int → Int} {b : Nat → Int} {m : Bool} {nb i : Int} {u4 : Option Value} (hT : TX (σ 10) N) (h : TSt σ N st 1 ((d, p), o, b) τ) (hi : i = 400 - ((f + 1 : Nat) : Int)) (hf : f < 400) (hnb : nb = if m = true then 1 else 0)
    (ih : ∀ (τ : sT) (d : Int → Int) (p o : Nat) (b : Nat → Int) (m : Bool) (nb i : Int) (u4 : Option Value), TSt σ N st 1 ((d, p), o, b) τ → i = 400 - (f : Int) → nb = (if m = true then 1 else 0) → FW g zX2_readTune 0 0 (Ry l (PFt σ N st) (PSt σ N st 1) (rTu (σ 10) N f d p o b m)) 33 [some (.ref 9), some (iv nb), some (iv 1), some (iv i), u4] [] τ l) :
    FW g zX2_readTune 0 0 (Ry l (PFt σ N st) (PSt σ N st 1) (rTu (σ 10) N (f + 1) d p o b m)) 33 [some (.ref 9), some (iv nb), some (iv 1), some (iv i), u4] [] τ l := by
  have hP := h.p
  have hle : p ≤ N := hP.le
  have hN := hT.1
  have hs := sk_le (Q := isSp) (T := σ 10) hle
  have hcr := sgn_rng (p := (sk isSp (σ 10) N p)) hT
  have hcR : R32 (sgn (σ 10) N (sk isSp (σ 10) N p)) := ⟨by omega, by omega⟩
  have hn9 : N9 τ (up τ 9 6 ((sk isSp (σ 10) N p) : Int)) := (N9.refl τ).up (by decide)
  have hK : PSt σ N st 1 (d, (sk isSp (σ 10) N p)) (up τ 9 6 ((sk isSp (σ 10) N p) : Int)) := hP.n9 hn9 (by rw [up_ne (by decide)]) (by rw [up_ne (by decide)]) up_eq hs.2
  have hKT := h.n9 hn9 hK
  have hlt : (sgn (σ 10) N (sk isSp (σ 10) N p)) ≠ -1 → (sk isSp (σ 10) N p) + 1 ≤ N := fun z => by
    by_cases c : (sk isSp (σ 10) N p) < N
    · omega
    · exact absurd (if_neg c) z
  have hsp : (isPt (sgn (σ 10) N (sk isSp (σ 10) N p)) = true ∨ ((sgn (σ 10) N (sk isSp (σ 10) N p)) = 41 ∧ m = false)) → rTu (σ 10) N (f + 1) d p o b m = (match rPart (σ 10) N d (sk isSp (σ 10) N p) o b (sgn (σ 10) N (sk isSp (σ 10) N p)) with
      | .inl e => .inl e
      | .inr (x, o2, b2) => rTu (σ 10) N f x.1 x.2 o2 b2 (decide ((sgn (σ 10) N (sk isSp (σ 10) N p)) = 40))) := fun hpt => by
    have n1 : ¬ (isPt (sgn (σ 10) N (sk isSp (σ 10) N p)) = false ∧ m = true) := fun z => by
      rcases hpt with h1 | h1
      · rw [h1] at z; exact absurd z.1 (by decide)
      · rw [h1.2] at z; exact absurd z.2 (by decide)
    have n2 : ¬ (isPt (sgn (σ 10) N (sk isSp (σ 10) N p)) = false ∧ (sgn (σ 10) N (sk isSp (σ 10) N p)) ≠ 41) := fun z => by
      rcases hpt with h1 | h1
      · rw [h1] at z; exact absurd z.1 (by decide)
      · exact z.2 h1.1
    rw [rTu, if_neg n1, if_neg n2]
  have yes : ∀ {τ2 : sT} {x : TY}, (isPt (sgn (σ 10) N (sk isSp (σ 10) N p)) = true ∨ ((sgn (σ 10) N (sk isSp (σ 10) N p)) = 41 ∧ m = false)) → rPart (σ 10) N d (sk isSp (σ 10) N p) o b (sgn (σ 10) N (sk isSp (σ 10) N p)) = .inr x → TSt σ N st 1 x τ2 → ∀ (nb2 i2 : Int) (u4 : Option Value), i2 = 400 - (f : Int) → nb2 = (if decide ((sgn (σ 10) N (sk isSp (σ 10) N p)) = 40) = true then 1 else 0) → FW g zX2_readTune 0 0 (Ry l (PFt σ N st) (PSt σ N st 1) (rTu (σ 10) N (f + 1) d p o b m)) 33 [some (.ref 9), some (iv nb2), some (iv 1), some (iv i2), u4] [] τ2 l := by
    intro τ2 x hpt hr hS nb2 i2 u4 hi2 hnb2
    obtain ⟨⟨d2, p2⟩, o2, b2⟩ := x
    rw [hsp hpt, hr]
    exact ih _ _ _ _ _ _ _ _ _ hS hi2 hnb2
  have no : ∀ {τ2 : sT} {e : Int × Nat}, (isPt (sgn (σ 10) N (sk isSp (σ 10) N p)) = true ∨ ((sgn (σ 10) N (sk isSp (σ 10) N p)) = 41 ∧ m = false)) → rPart (σ 10) N d (sk isSp (σ 10) N p) o b (sgn (σ 10) N (sk isSp (σ 10) N p)) = .inl e → PFt σ N st e τ2 → ∀ (nb2 i2 : Int) (u4 : Option Value), i2 = 400 - (f : Int) → nb2 = (if decide ((sgn (σ 10) N (sk isSp (σ 10) N p)) = 40) = true then 1 else 0) → FW g zX2_readTune 0 0 (Ry l (PFt σ N st) (PSt σ N st 1) (rTu (σ 10) N (f + 1) d p o b m)) 33 [some (.ref 9), some (iv nb2), some (iv 0), some (iv i2), u4] [] τ2 l := by
    intro τ2 e hpt hr hA nb2 i2 u4 hi2 _
    exact tune_n (by rw [hsp hpt, hr]) hA ⟨by omega, by omega⟩
  have tl : ∀ {gd : Int} {τ2 : sT}, (∀ (nb2 i2 : Int) (u4 : Option Value), i2 = 400 - (f : Int) → nb2 = (if decide ((sgn (σ 10) N (sk isSp (σ 10) N p)) = 40) = true then 1 else 0) → FW g zX2_readTune 0 0 (Ry l (PFt σ N st) (PSt σ N st 1) (rTu (σ 10) N (f + 1) d p o b m)) 33 [some (.ref 9), some (iv nb2), some (iv gd), some (iv i2), u4] [] τ2 l) → FW g zX2_readTune 0 0 (Ry l (PFt σ N st) (PSt σ N st 1) (rTu (σ 10) N (f + 1) d p o b m)) 177 [some (.ref 9), some (iv nb), some (iv gd), some (iv i), some (iv (sgn (σ 10) N (sk isSp (σ 10) N p)))] [] τ2 l := by
    intro gd τ2 fin
    refine g_iload4 dX2_readTune_177 ?_
    refine g_bipush dX2_readTune_179 (by decide) ?_
    refine g_icmp_ne hcR ⟨by decide, by decide⟩ (tgt := 188) dX2_readTune_181 rfl (fun h181 => ?_) (fun h181 => ?_)
    · have hb : (0 : Int) = (if decide ((sgn (σ 10) N (sk isSp (σ 10) N p)) = 40) = true then 1 else 0) := by rw [if_neg (fun z => h181 (of_decide_eq_true z))]
      refine g_iconst dX2_readTune_188 ?_
      refine g_istore1 dX2_readTune_189 rfl (by decide) ?_
      refine g_iinc3 dX2_readTune_190 rfl (by decide) ?_
      refine g_goto (tgt := 33) dX2_readTune_193 rfl ?_
      exact fin _ _ _ (by omega) hb
    · have hb : (1 : Int) = (if decide ((sgn (σ 10) N (sk isSp (σ 10) N p)) = 40) = true then 1 else 0) := by rw [if_pos (decide_eq_true h181)]
      refine g_iconst dX2_readTune_184 ?_
      refine g_goto (tgt := 189) dX2_readTune_185 rfl ?_
      refine g_istore1 dX2_readTune_189 rfl (by decide) ?_
      refine g_iinc3 dX2_readTune_190 rfl (by decide) ?_
      refine g_goto (tgt := 33) dX2_readTune_193 rfl ?_
      exact fin _ _ _ (by omega) hb
  refine g_iload3 dX2_readTune_33 ?_
  refine g_sipush dX2_readTune_34 (by decide) ?_
  refine g_icmp_ge ⟨by omega, by omega⟩ ⟨by decide, by decide⟩ (tgt := 196) dX2_readTune_37 rfl (fun h37 => absurd h37 (by omega)) (fun h37 => ?_)
  refine g_iload2 dX2_readTune_40 ?_
  refine g_if_eq ⟨by decide, by decide⟩ (tgt := 196) dX2_readTune_41 rfl (fun h41 => absurd h41 (by decide)) (fun h41 => ?_)
  refine g_aload0 dX2_readTune_44 ?_
  refine f_cV0d (skipSpaces_ok hT hP.len hP.txt hP.pos hP.le) rfl (by decide) rfl oY_X2_skipSpaces oI_X2_skipSpaces lk_X2_82 rfl dX2_readTune_45 rfl (Or.inl rfl) ?_
  refine g_aload0 dX2_readTune_48 ?_
  refine f_cV0w (sign_ok hT hK.len hK.txt (p := (sk isSp (σ 10) N p)) up_eq hs.2) rfl (by decide) rfl oY_X2_sign oI_X2_sign lk_X2_85 rfl dX2_readTune_49 rfl (Or.inl rfl) ?_
  refine g_istore4 dX2_readTune_52 rfl (by decide) ?_
  refine g_iload4 dX2_readTune_54 ?_
  refine f_cS1w (isDigit_ok hcR) oY_X2_isDigit oT_X2_isDigit lk_X2_110 rfl dX2_readTune_56 rfl (Or.inl rfl) ?_
  refine g_ifeqB (tgt := 92) dX2_readTune_59 rfl (fun h59 => ?_) (fun h59 => ?_)
  · refine g_iload4 dX2_readTune_92 ?_
    refine f_cS1w (isLetter_ok hcR) oY_X2_isLetter oT_X2_isLetter lk_X2_93 rfl dX2_readTune_94 rfl (Or.inl rfl) ?_
    refine g_ifeqB (tgt := 108) dX2_readTune_97 rfl (fun h97 => ?_) (fun h97 => ?_)
    · refine g_iload4 dX2_readTune_108 ?_
      refine g_bipush dX2_readTune_110 (by decide) ?_
      refine g_icmp_ne hcR ⟨by decide, by decide⟩ (tgt := 123) dX2_readTune_112 rfl (fun h112 => ?_) (fun h112 => ?_)
      · have hpf : isPt (sgn (σ 10) N (sk isSp (σ 10) N p)) = false := by unfold isPt; rw [Bool.eq_false_iff.mpr h59, Bool.eq_false_iff.mpr h97, decide_eq_false h112]; rfl
        refine g_iload1 dX2_readTune_123 ?_
        refine g_if_eq ⟨by split at hnb <;> omega, by split at hnb <;> omega⟩ (tgt := 137) dX2_readTune_124 rfl (fun h124 => ?_) (fun h124 => ?_)
        · have hmf : m = false := by
            cases m
            · rfl
            · rw [if_pos rfl] at hnb; omega
          refine g_iload4 dX2_readTune_137 ?_
          refine g_bipush dX2_readTune_139 (by decide) ?_
          refine g_icmp_ne hcR ⟨by decide, by decide⟩ (tgt := 152) dX2_readTune_141 rfl (fun h141 => ?_) (fun h141 => ?_)
          · refine g_aload0 dX2_readTune_152 ?_
            refine f_geti (J := 10) rfl (by decide) rfl rfl fl_X2_48 dX2_readTune_153 ?_
            rw [up_ne (by decide), h.o]
            refine g_if_eq ⟨by have := h.o4; omega, by have := h.o4; omega⟩ (tgt := 171) dX2_readTune_156 rfl (fun h156 => ?_) (fun h156 => ?_)
            · refine g_iconst dX2_readTune_171 ?_
              refine g_goto (tgt := 176) dX2_readTune_172 rfl ?_
              refine g_iretB (Or.inr rfl) rfl dX2_readTune_176 ?_
              first
                | exact Ry.yes (by rw [rTu, if_neg (fun z => by rw [hmf] at z; exact absurd z.2 (by decide)), if_pos ⟨hpf, h141⟩, if_pos (by omega)]) hK
                | exact Ry.no (by rw [rTu, if_neg (fun z => by rw [hmf] at z; exact absurd z.2 (by decide)), if_pos ⟨hpf, h141⟩, if_neg (by omega)]) (hK.fail n9_fail (by rw [up_ne (by decide), up_eq]) up_eq)
            · refine g_aload0 dX2_readTune_159 ?_
              refine g_iconst dX2_readTune_160 ?_
              refine g_aload0 dX2_readTune_161 ?_
              refine f_geti (J := 6) rfl (by decide) rfl rfl fl_X2_35 dX2_readTune_162 ?_
              rw [up_eq]
              refine f_cV2x (fail_ok) rfl (by decide) rfl oY_X2_fail oI_X2_fail lk_X2_89 rfl dX2_readTune_165 rfl (Or.inl rfl) ?_
              refine g_if_eq ⟨by decide, by decide⟩ (tgt := 175) dX2_readTune_168 rfl (fun h168 => ?_) (fun h168 => absurd h168 (by decide))
              refine g_iconst dX2_readTune_175 ?_
              refine g_iretB (Or.inl rfl) rfl dX2_readTune_176 ?_
              first
                | exact Ry.yes (by rw [rTu, if_neg (fun z => by rw [hmf] at z; exact absurd z.2 (by decide)), if_pos ⟨hpf, h141⟩, if_pos (by omega)]) hK
                | exact Ry.no (by rw [rTu, if_neg (fun z => by rw [hmf] at z; exact absurd z.2 (by decide)), if_pos ⟨hpf, h141⟩, if_neg (by omega)]) (hK.fail n9_fail (by rw [up_ne (by decide), up_eq]) up_eq)
          · have hne : (sgn (σ 10) N (sk isSp (σ 10) N p)) ≠ -1 := by omega
            refine g_aload0 dX2_readTune_144 ?_
            refine f_cV0n (readClosing_ok hT hKT (fun _ => hlt hne)) rfl (by decide) rfl oY_X2_readClosing oI_X2_readClosing lk_X2_187 rfl dX2_readTune_145 (Nat.zero_le _) (Nat.zero_le _) rfl (Or.inl rfl) (fun v145 σ145 l145 h145 => ?_) (fun e145 σ145 l145 h145 => ?_)
            · obtain ⟨e145, y145⟩ := Ry.split h145
              subst e145
              rcases y145 with ⟨k145, r145, rfl, A145⟩ | ⟨q145, r145, rfl, B145⟩
              · show GW g _ _ _ _ _ _ (iv 0 :: _) _
                have fin : ∀ (nb2 i2 : Int) (u4 : Option Value), i2 = 400 - (f : Int) → nb2 = (if decide ((sgn (σ 10) N (sk isSp (σ 10) N p)) = 40) = true then 1 else 0) → FW g zX2_readTune 0 0 (Ry l145 (PFt σ N st) (PSt σ N st 1) (rTu (σ 10) N (f + 1) d p o b m)) 33 [some (.ref 9), some (iv nb2), some (iv 0), some (iv i2), u4] [] σ145 l145 := no (Or.inr ⟨h141, hmf⟩) (by unfold rPart; rw [if_neg h112, if_pos h141, r145]) A145
                refine g_istore2 dX2_readTune_148 rfl (by decide) ?_
                refine g_goto (tgt := 177) dX2_readTune_149 rfl ?_
                exact tl fin
              · show GW g _ _ _ _ _ _ (iv 1 :: _) _
                have fin : ∀ (nb2 i2 : Int) (u4 : Option Value), i2 = 400 - (f : Int) → nb2 = (if decide ((sgn (σ 10) N (sk isSp (σ 10) N p)) = 40) = true then 1 else 0) → FW g zX2_readTune 0 0 (Ry l145 (PFt σ N st) (PSt σ N st 1) (rTu (σ 10) N (f + 1) d p o b m)) 33 [some (.ref 9), some (iv nb2), some (iv 1), some (iv i2), u4] [] σ145 l145 := yes (Or.inr ⟨h141, hmf⟩) (by unfold rPart; rw [if_neg h112, if_pos h141, r145]) (B145)
                refine g_istore2 dX2_readTune_148 rfl (by decide) ?_
                refine g_goto (tgt := 177) dX2_readTune_149 rfl ?_
                exact tl fin
            · exact (Ry.nx h145).elim
        · have hmt : m = true := by
            cases m
            · rw [if_neg (by decide)] at hnb; omega
            · rfl
          refine g_aload0 dX2_readTune_127 ?_
          refine g_iconst dX2_readTune_128 ?_
          refine g_aload0 dX2_readTune_129 ?_
          refine f_geti (J := 6) rfl (by decide) rfl rfl fl_X2_35 dX2_readTune_130 ?_
          rw [up_eq]
          refine f_cV2x (fail_ok) rfl (by decide) rfl oY_X2_fail oI_X2_fail lk_X2_89 rfl dX2_readTune_133 rfl (Or.inl rfl) ?_
          refine g_iretB (Or.inl rfl) rfl dX2_readTune_136 ?_
          exact Ry.no (by rw [rTu, if_pos ⟨hpf, hmt⟩]) (hK.fail n9_fail (by rw [up_ne (by decide), up_eq]) up_eq)
      · have hne : (sgn (σ 10) N (sk isSp (σ 10) N p)) ≠ -1 := by omega
        have hpt : isPt (sgn (σ 10) N (sk isSp (σ 10) N p)) = true := by unfold isPt; rw [decide_eq_true h112, Bool.or_true]
        refine g_aload0 dX2_readTune_115 ?_
        refine f_cV0n (readOpening_ok hT hKT (fun _ => hlt hne)) rfl (by decide) rfl oY_X2_readOpening oI_X2_readOpening lk_X2_184 rfl dX2_readTune_116 (Nat.zero_le _) (Nat.zero_le _) rfl (Or.inl rfl) (fun v116 σ116 l116 h116 => ?_) (fun e116 σ116 l116 h116 => ?_)
        · obtain ⟨e116, y116⟩ := Ry.split h116
          subst e116
          rcases y116 with ⟨k116, r116, rfl, A116⟩ | ⟨q116, r116, rfl, B116⟩
          · show GW g _ _ _ _ _ _ (iv 0 :: _) _
            have fin : ∀ (nb2 i2 : Int) (u4 : Option Value), i2 = 400 - (f : Int) → nb2 = (if decide ((sgn (σ 10) N (sk isSp (σ 10) N p)) = 40) = true then 1 else 0) → FW g zX2_readTune 0 0 (Ry l116 (PFt σ N st) (PSt σ N st 1) (rTu (σ 10) N (f + 1) d p o b m)) 33 [some (.ref 9), some (iv nb2), some (iv 0), some (iv i2), u4] [] σ116 l116 := no (Or.inl hpt) (by unfold rPart; rw [if_pos h112, r116]) A116
            refine g_istore2 dX2_readTune_119 rfl (by decide) ?_
            refine g_goto (tgt := 177) dX2_readTune_120 rfl ?_
            exact tl fin
          · show GW g _ _ _ _ _ _ (iv 1 :: _) _
            have fin : ∀ (nb2 i2 : Int) (u4 : Option Value), i2 = 400 - (f : Int) → nb2 = (if decide ((sgn (σ 10) N (sk isSp (σ 10) N p)) = 40) = true then 1 else 0) → FW g zX2_readTune 0 0 (Ry l116 (PFt σ N st) (PSt σ N st 1) (rTu (σ 10) N (f + 1) d p o b m)) 33 [some (.ref 9), some (iv nb2), some (iv 1), some (iv i2), u4] [] σ116 l116 := yes (Or.inl hpt) (by unfold rPart; rw [if_pos h112, r116]) (B116)
            refine g_istore2 dX2_readTune_119 rfl (by decide) ?_
            refine g_goto (tgt := 177) dX2_readTune_120 rfl ?_
            exact tl fin
        · exact (Ry.nx h116).elim
    · have hll : 97 ≤ (sgn (σ 10) N (sk isSp (σ 10) N p)) ∧ (sgn (σ 10) N (sk isSp (σ 10) N p)) ≤ 122 := of_decide_eq_true h97
      have hpt : isPt (sgn (σ 10) N (sk isSp (σ 10) N p)) = true := by unfold isPt; rw [h97, Bool.or_true]; rfl
      have c40 : ¬ (sgn (σ 10) N (sk isSp (σ 10) N p)) = 40 := by omega
      have c41 : ¬ (sgn (σ 10) N (sk isSp (σ 10) N p)) = 41 := by omega
      refine g_aload0 dX2_readTune_100 ?_
      refine f_cV0n (readRest_ok hT hKT c40 c41 h59) rfl (by decide) rfl oY_X2_readRest oI_X2_readRest lk_X2_181 rfl dX2_readTune_101 (Nat.zero_le _) (Nat.zero_le _) rfl (Or.inl rfl) (fun v101 σ101 l101 h101 => ?_) (fun e101 σ101 l101 h101 => ?_)
      · obtain ⟨e101, y101⟩ := Ry.split h101
        subst e101
        rcases y101 with ⟨k101, r101, rfl, A101⟩ | ⟨q101, r101, rfl, B101⟩
        · show GW g _ _ _ _ _ _ (iv 0 :: _) _
          have fin : ∀ (nb2 i2 : Int) (u4 : Option Value), i2 = 400 - (f : Int) → nb2 = (if decide ((sgn (σ 10) N (sk isSp (σ 10) N p)) = 40) = true then 1 else 0) → FW g zX2_readTune 0 0 (Ry l101 (PFt σ N st) (PSt σ N st 1) (rTu (σ 10) N (f + 1) d p o b m)) 33 [some (.ref 9), some (iv nb2), some (iv 0), some (iv i2), u4] [] σ101 l101 := no (Or.inl hpt) (r101) A101
          refine g_istore2 dX2_readTune_104 rfl (by decide) ?_
          refine g_goto (tgt := 177) dX2_readTune_105 rfl ?_
          exact tl fin
        · show GW g _ _ _ _ _ _ (iv 1 :: _) _
          have fin : ∀ (nb2 i2 : Int) (u4 : Option Value), i2 = 400 - (f : Int) → nb2 = (if decide ((sgn (σ 10) N (sk isSp (σ 10) N p)) = 40) = true then 1 else 0) → FW g zX2_readTune 0 0 (Ry l101 (PFt σ N st) (PSt σ N st 1) (rTu (σ 10) N (f + 1) d p o b m)) 33 [some (.ref 9), some (iv nb2), some (iv 1), some (iv i2), u4] [] σ101 l101 := yes (Or.inl hpt) (r101) (B101)
          refine g_istore2 dX2_readTune_104 rfl (by decide) ?_
          refine g_goto (tgt := 177) dX2_readTune_105 rfl ?_
          exact tl fin
      · exact (Ry.nx h101).elim
  · have hdd : 48 ≤ (sgn (σ 10) N (sk isSp (σ 10) N p)) ∧ (sgn (σ 10) N (sk isSp (σ 10) N p)) ≤ 57 := of_decide_eq_true h59
    have hpt : isPt (sgn (σ 10) N (sk isSp (σ 10) N p)) = true := by unfold isPt; rw [h59]; rfl
    have c40 : ¬ (sgn (σ 10) N (sk isSp (σ 10) N p)) = 40 := by omega
    have c41 : ¬ (sgn (σ 10) N (sk isSp (σ 10) N p)) = 41 := by omega
    refine g_aload0 dX2_readTune_62 ?_
    refine g_iconst dX2_readTune_63 ?_
    refine g_bipush dX2_readTune_64 (by decide) ?_
    refine f_cV2n (readNumber_ok hT hK.len hK.txt hK.pos hK.le ⟨by decide, by decide⟩ ⟨by decide, by decide⟩) rfl (by decide) rfl oY_X2_readNumber oI_X2_readNumber lk_X2_123 rfl dX2_readTune_66 (Nat.zero_le _) (Nat.zero_le _) rfl (Or.inl rfl) (fun v66 σ66 l66 h66 => ?_) (fun e66 σ66 l66 h66 => ?_)
    · obtain ⟨e66, y66⟩ := Rz.split h66
      subst e66
      rcases y66 with ⟨k66, pl66, r66, rfl, n66⟩ | ⟨w66, q66, r66, rfl, n66⟩
      · show GW g _ _ _ _ _ _ (iv 0 :: _) _
        have fin : ∀ (nb2 i2 : Int) (u4 : Option Value), i2 = 400 - (f : Int) → nb2 = (if decide ((sgn (σ 10) N (sk isSp (σ 10) N p)) = 40) = true then 1 else 0) → FW g zX2_readTune 0 0 (Ry l66 (PFt σ N st) (PSt σ N st 1) (rTu (σ 10) N (f + 1) d p o b m)) 33 [some (.ref 9), some (iv nb2), some (iv 0), some (iv i2), u4] [] σ66 l66 := no (Or.inl hpt) (by unfold rPart; rw [if_neg c40, if_neg c41, if_pos h59]; simp only [r66]) (hK.numF n66)
        refine g_if_eq ⟨by decide, by decide⟩ (tgt := 87) dX2_readTune_69 rfl (fun h69 => ?_) (fun h69 => absurd h69 (by decide))
        refine g_iconst dX2_readTune_87 ?_
        refine g_istore2 dX2_readTune_88 rfl (by decide) ?_
        refine g_goto (tgt := 177) dX2_readTune_89 rfl ?_
        exact tl fin
      · show GW g _ _ _ _ _ _ (iv 1 :: _) _
        obtain ⟨Q66, x66, a66, b66⟩ := hK.num n66 r66
        refine g_if_eq ⟨by decide, by decide⟩ (tgt := 87) dX2_readTune_69 rfl (fun h69 => absurd h69 (by decide)) (fun h69 => ?_)
        refine g_aload0 dX2_readTune_72 ?_
        refine g_aload0 dX2_readTune_73 ?_
        refine f_geti (J := 8) rfl (by decide) rfl rfl fl_X2_41 dX2_readTune_74 ?_
        rw [x66]
        refine f_cV1n (takeNote_ok (t := w66) Q66 n66.2.2.2.2.1 ⟨by omega, by omega⟩) rfl (by decide) rfl oY_X2_takeNote oI_X2_takeNote lk_X2_178 rfl dX2_readTune_77 (Nat.zero_le _) (Nat.zero_le _) rfl (Or.inl rfl) (fun v77 σ77 l77 h77 => ?_) (fun e77 σ77 l77 h77 => ?_)
        · obtain ⟨e77, y77⟩ := Ry.split h77
          subst e77
          rcases y77 with ⟨k77, r77, rfl, A77⟩ | ⟨q77, r77, rfl, B77⟩
          · show GW g _ _ _ _ _ _ (iv 0 :: _) _
            have fin : ∀ (nb2 i2 : Int) (u4 : Option Value), i2 = 400 - (f : Int) → nb2 = (if decide ((sgn (σ 10) N (sk isSp (σ 10) N p)) = 40) = true then 1 else 0) → FW g zX2_readTune 0 0 (Ry l77 (PFt σ N st) (PSt σ N st 1) (rTu (σ 10) N (f + 1) d p o b m)) 33 [some (.ref 9), some (iv nb2), some (iv 0), some (iv i2), u4] [] σ77 l77 := no (Or.inl hpt) (by unfold rPart; rw [if_neg c40, if_neg c41, if_pos h59]; simp only [r66, r77]) A77
            refine g_if_eq ⟨by decide, by decide⟩ (tgt := 87) dX2_readTune_80 rfl (fun h80 => ?_) (fun h80 => absurd h80 (by decide))
            refine g_iconst dX2_readTune_87 ?_
            refine g_istore2 dX2_readTune_88 rfl (by decide) ?_
            refine g_goto (tgt := 177) dX2_readTune_89 rfl ?_
            exact tl fin
          · show GW g _ _ _ _ _ _ (iv 1 :: _) _
            have fin : ∀ (nb2 i2 : Int) (u4 : Option Value), i2 = 400 - (f : Int) → nb2 = (if decide ((sgn (σ 10) N (sk isSp (σ 10) N p)) = 40) = true then 1 else 0) → FW g zX2_readTune 0 0 (Ry l77 (PFt σ N st) (PSt σ N st 1) (rTu (σ 10) N (f + 1) d p o b m)) 33 [some (.ref 9), some (iv nb2), some (iv 1), some (iv i2), u4] [] σ77 l77 := yes (Or.inl hpt) (by unfold rPart; rw [if_neg c40, if_neg c41, if_pos h59]; simp only [r66, r77]) ((hKT.n9 n66.1 Q66).nt B77.1 B77.2 (rNote_9 r77))
            refine g_if_eq ⟨by decide, by decide⟩ (tgt := 87) dX2_readTune_80 rfl (fun h80 => absurd h80 (by decide)) (fun h80 => ?_)
            refine g_iconst dX2_readTune_83 ?_
            refine g_goto (tgt := 88) dX2_readTune_84 rfl ?_
            refine g_istore2 dX2_readTune_88 rfl (by decide) ?_
            refine g_goto (tgt := 177) dX2_readTune_89 rfl ?_
            exact tl fin
        · exact (Ry.nx h77).elim
    · exact (Rz.nx h66).elim
theorem tune_l {N : Nat} {st : Int} (hT : TX (σ 10) N) : ∀ f : Nat, f ≤ 400 → ∀ (τ : sT) (d : Int → Int) (p o : Nat) (b : Nat → Int) (m : Bool) (nb i : Int) (u4 : Option Value), TSt σ N st 1 ((d, p), o, b) τ → i = 400 - (f : Int) → nb = (if m = true then 1 else 0) → FW g zX2_readTune 0 0 (Ry l (PFt σ N st) (PSt σ N st 1) (rTu (σ 10) N f d p o b m)) 33 [some (.ref 9), some (iv nb), some (iv 1), some (iv i), u4] [] τ l := by
  intro f
  induction f with
  | zero => intro _ τ d p o b m nb i u4 h hi hnb; exact tune_0 hT h (by omega)
  | succ f ih => intro hf τ d p o b m nb i u4 h hi hnb; exact tune_s hT h hi (by omega) hnb (ih (by omega))
theorem readTune_ok {N p q : Nat} {st ht : Int} {d : Int → Int} (hT : TX (σ 10) N) (h : PSt σ N st ht (d, p) τ) (h7 : τ 9 7 = (q : Int)) (hht : ht = 0 ∨ ht = 1) : Fn g zX2_readTune 0 0 [.ref 9] τ l (Ry l (PFt σ N st) (PSt σ N st 1) (rTune (σ 10) N d ht q p)) := by
  have hz : TSt σ N st 1 ((d, p), 0, fun _ => 0) (up (up τ 9 9 1) 9 10 0) := ⟨⟨fun a a0 a1 => by rw [up_n a0, up_n a0]; exact h.fr a a0 a1, by rw [up_ne (by decide), up_ne (by decide)]; exact h.len, by rw [up_ne (by decide), up_ne (by decide)]; exact h.err, by rw [up_ne (by decide), up_ne (by decide)]; exact h.pl, by rw [up_ne (by decide), up_ne (by decide)]; exact h.stm, by rw [up_ne (by decide), up_ne (by decide)]; exact h.pos, by rw [up_ne (by decide), up_eq], h.c.frame (by rw [up_n (by decide), up_n (by decide)]) (by rw [up_n (by decide), up_n (by decide)]) (by rw [up_n (by decide), up_n (by decide)]) (by rw [up_n (by decide), up_n (by decide)]), h.s, h.le⟩, up_eq, Nat.zero_le _, fun j hj => absurd hj (Nat.not_lt_zero _), fun j hj => absurd hj (Nat.not_lt_zero _)⟩
  refine Fn.of [some (.ref 9), none, none, none, none] rfl (by decide) (Nat.le_of_ble_eq_true rfl) rfl ?_
  refine g_aload0 dX2_readTune_0 ?_
  refine f_geti (J := 9) rfl (by decide) rfl rfl fl_X2_44 dX2_readTune_1 ?_
  rw [show τ 9 9 = ht from h.tun]
  refine g_if_eq ⟨by omega, by omega⟩ (tgt := 17) dX2_readTune_4 rfl (fun h4 => ?_) (fun h4 => ?_)
  · refine g_aload0 dX2_readTune_17 ?_
    refine g_iconst dX2_readTune_18 ?_
    refine f_putz (J := 9) (by decide) rfl (by decide) rfl rfl fl_X2_44 rfl (fun _ _ _ h => by cases h; rfl) dX2_readTune_19 ?_
    refine g_aload0 dX2_readTune_22 ?_
    refine g_iconst dX2_readTune_23 ?_
    refine f_puti (J := 10) rfl (by decide) rfl rfl fl_X2_48 rfl (fun _ _ _ h => by cases h; rfl) dX2_readTune_24 ?_
    refine g_iconst dX2_readTune_27 ?_
    refine g_istore1 dX2_readTune_28 rfl (by decide) ?_
    refine g_iconst dX2_readTune_29 ?_
    refine g_istore2 dX2_readTune_30 rfl (by decide) ?_
    refine g_iconst dX2_readTune_31 ?_
    refine g_istore3 dX2_readTune_32 rfl (by decide) ?_
    have e0 : rTune (σ 10) N d ht q p = rTu (σ 10) N 400 d p 0 (fun _ => 0) true := by unfold rTune; rw [if_neg (fun z => z h4)]
    rw [e0]
    exact tune_l hT 400 (Nat.le_refl _) _ _ _ _ _ _ _ _ _ hz rfl rfl
  · refine g_aload0 dX2_readTune_7 ?_
    refine g_iconst dX2_readTune_8 ?_
    refine g_aload0 dX2_readTune_9 ?_
    refine f_geti (J := 7) rfl (by decide) rfl rfl fl_X2_38 dX2_readTune_10 ?_
    rw [h7]
    refine f_cV2x (fail_ok) rfl (by decide) rfl oY_X2_fail oI_X2_fail lk_X2_89 rfl dX2_readTune_13 rfl (Or.inl rfl) ?_
    refine g_iretB (Or.inl rfl) rfl dX2_readTune_16 ?_
    exact Ry.no (by unfold rTune; rw [if_pos h4]) (h.fail n9_fail (by rw [up_ne (by decide), up_eq]) up_eq)
end C63
