/-! The reader: parts, the tune, statements -/
section C63
variable {g : gT} {σ τ : sT} {l : Nat → Nat}
abbrev TY := ((Int → Int) × Nat) × Nat × (Nat → Int)
def rPart (T : Int → Int) (N : Nat) (d : Int → Int) (p o : Nat) (b : Nat → Int) (c : Int) : Sum (Int × Nat) TY :=
  if c = 40 then rOpen d p o b
  else if c = 41 then rClose T N d p o b
  else if isDg c = true then (match rNum T N 0 24 p with
    | .inl e => .inl e
    | .inr (v, e) => match rNote d (sk isSp T N p) v with
      | .inl x => .inl x
      | .inr d2 => .inr ((d2, e), o, b))
  else if isWB T (sk isSp T N p) (sk isLt T N (sk isSp T N p)) 5 = true then (match rNote d (sk isSp T N p) (-1) with
    | .inl x => .inl x
    | .inr d2 => .inr ((d2, sk isLt T N (sk isSp T N p)), o, b))
  else .inl (1, sk isSp T N p)
theorem rNote_9 {d d2 : Int → Int} {q : Nat} {t : Int} (h : rNote d q t = .inr d2) : d 9 ≤ d2 9 := by
  unfold rNote at h
  split at h
  · cases h
  · cases h; rw [adS_9]; omega
theorem readPart_ok {N p o : Nat} {st ht : Int} {d : Int → Int} {b : Nat → Int} (hT : TX (σ 10) N) (h : TSt σ N st ht ((d, p), o, b) τ) {c : Int} (hcR : R32 c) (hlt1 : o < 4 → p + 1 ≤ N) (hlt2 : 0 < o → p + 1 ≤ N) : Fn g zX2_readPart 0 0 [.ref 9, iv c] τ l (Ry l (PFt σ N st) (TSt σ N st ht) (rPart (σ 10) N d p o b c)) := by
  have hP := h.p
  have c1 := hP.c
  have o1 := hP.s
  have ho3 := o1.holes
  have hn := o1.notes
  have ho := h.o
  have ho4 := h.o4
  have hle : p ≤ N := hP.le
  have hN := hT.1
  have hs := sk_le (Q := isSp) (T := σ 10) hle
  have hs2 := sk_le (Q := isLt) (T := σ 10) hs.2
  refine Fn.of [some (.ref 9), some (iv c)] rfl (by decide) (Nat.le_of_ble_eq_true rfl) rfl ?_
  refine g_iload1 dX2_readPart_0 ?_
  refine g_bipush dX2_readPart_1 (by decide) ?_
  refine g_icmp_ne hcR ⟨by decide, by decide⟩ (tgt := 11) dX2_readPart_3 rfl (fun h3 => ?_) (fun h3 => ?_)
  · refine g_iload1 dX2_readPart_11 ?_
    refine g_bipush dX2_readPart_12 (by decide) ?_
    refine g_icmp_ne hcR ⟨by decide, by decide⟩ (tgt := 22) dX2_readPart_14 rfl (fun h14 => ?_) (fun h14 => ?_)
    · refine g_iload1 dX2_readPart_22 ?_
      refine f_cS1w (isDigit_ok hcR) oY_X2_isDigit oT_X2_isDigit lk_X2_104 rfl dX2_readPart_23 rfl (Or.inl rfl) ?_
      refine g_ifeqB (tgt := 56) dX2_readPart_26 rfl (fun h26 => ?_) (fun h26 => ?_)
      · refine g_aload0 dX2_readPart_56 ?_
        refine f_cV0d (readWord_ok hT hP.len hP.txt hP.pos hP.le) rfl (by decide) rfl oY_X2_readWord oI_X2_readWord lk_X2_114 rfl dX2_readPart_57 rfl (Or.inl rfl) ?_
        have hW9 : N9 τ (up (up τ 9 7 ((sk isSp (σ 10) N p) : Int)) 9 6 ((sk isLt (σ 10) N (sk isSp (σ 10) N p)) : Int)) := ((N9.refl τ).up (by decide)).up (by decide)
        have hW : PSt σ N st ht (d, (sk isLt (σ 10) N (sk isSp (σ 10) N p))) (up (up τ 9 7 ((sk isSp (σ 10) N p) : Int)) 9 6 ((sk isLt (σ 10) N (sk isSp (σ 10) N p)) : Int)) := hP.n9 hW9 (by rw [up_ne (by decide), up_ne (by decide)]) (by rw [up_ne (by decide), up_ne (by decide)]) up_eq hs2.2
        have hW7 : (up (up τ 9 7 ((sk isSp (σ 10) N p) : Int)) 9 6 ((sk isLt (σ 10) N (sk isSp (σ 10) N p)) : Int)) 9 7 = ((sk isSp (σ 10) N p) : Int) := by rw [up_ne (by decide), up_eq]
        refine g_aload0 dX2_readPart_60 ?_
        refine g_ldcS ks_X2_190 dX2_readPart_61 ?_
        refine f_cV1w (isWord_b (i := 5) (q := (sk isSp (σ 10) N p)) (e := (sk isLt (σ 10) N (sk isSp (σ 10) N p))) hT hW.txt hW.pos hW7 ⟨hs2.1, hs2.2⟩ (by decide)) rfl (by decide) rfl oY_X2_isWord oI_X2_isWord lk_X2_119 rfl dX2_readPart_63 rfl (Or.inl rfl) ?_
        refine g_ifeqB (tgt := 77) dX2_readPart_66 rfl (fun h66 => ?_) (fun h66 => ?_)
        · refine g_aload0 dX2_readPart_77 ?_
          refine g_iconst dX2_readPart_78 ?_
          refine g_aload0 dX2_readPart_79 ?_
          refine f_geti (J := 7) rfl (by decide) rfl rfl fl_X2_38 dX2_readPart_80 ?_
          rw [hW7]
          refine f_cV2x (fail_ok) rfl (by decide) rfl oY_X2_fail oI_X2_fail lk_X2_87 rfl dX2_readPart_83 rfl (Or.inl rfl) ?_
          refine g_iretB (Or.inl rfl) rfl dX2_readPart_86 ?_
          first
            | exact Ry.no (by unfold rPart; rw [if_neg h3, if_neg h14, if_neg h26, if_pos h66]; simp only [r71]) A71
            | exact Ry.yes (by unfold rPart; rw [if_neg h3, if_neg h14, if_neg h26, if_pos h66]; simp only [r71]) ((h.n9 hW9 hW).nt B71.1 B71.2 (rNote_9 r71))
            | exact Ry.no (by unfold rPart; rw [if_neg h3, if_neg h14, if_neg h26, if_neg h66]) (hW.fail n9_fail (by rw [up_ne (by decide), up_eq]) up_eq)
        · refine g_aload0 dX2_readPart_69 ?_
          refine g_iconst dX2_readPart_70 ?_
          refine f_cV1n (takeNote_ok (t := -1) hW hW7 ⟨by decide, by decide⟩) rfl (by decide) rfl oY_X2_takeNote oI_X2_takeNote lk_X2_187 rfl dX2_readPart_71 (Nat.zero_le _) (Nat.zero_le _) rfl (Or.inl rfl) (fun v71 σ71 l71 h71 => ?_) (fun e71 σ71 l71 h71 => ?_)
          · obtain ⟨e71, y71⟩ := Ry.split h71
            subst e71
            rcases y71 with ⟨k71, r71, rfl, A71⟩ | ⟨q71, r71, rfl, B71⟩
            · show GW g _ _ _ _ _ _ (iv 0 :: _) _
              refine g_goto (tgt := 86) dX2_readPart_74 rfl ?_
              refine g_iretB (Or.inl rfl) rfl dX2_readPart_86 ?_
              first
                | exact Ry.no (by unfold rPart; rw [if_neg h3, if_neg h14, if_neg h26, if_pos h66]; simp only [r71]) A71
                | exact Ry.yes (by unfold rPart; rw [if_neg h3, if_neg h14, if_neg h26, if_pos h66]; simp only [r71]) ((h.n9 hW9 hW).nt B71.1 B71.2 (rNote_9 r71))
                | exact Ry.no (by unfold rPart; rw [if_neg h3, if_neg h14, if_neg h26, if_neg h66]) (hW.fail n9_fail (by rw [up_ne (by decide), up_eq]) up_eq)
            · show GW g _ _ _ _ _ _ (iv 1 :: _) _
              refine g_goto (tgt := 86) dX2_readPart_74 rfl ?_
              refine g_iretB (Or.inr rfl) rfl dX2_readPart_86 ?_
              first
                | exact Ry.no (by unfold rPart; rw [if_neg h3, if_neg h14, if_neg h26, if_pos h66]; simp only [r71]) A71
                | exact Ry.yes (by unfold rPart; rw [if_neg h3, if_neg h14, if_neg h26, if_pos h66]; simp only [r71]) ((h.n9 hW9 hW).nt B71.1 B71.2 (rNote_9 r71))
                | exact Ry.no (by unfold rPart; rw [if_neg h3, if_neg h14, if_neg h26, if_neg h66]) (hW.fail n9_fail (by rw [up_ne (by decide), up_eq]) up_eq)
          · exact (Ry.nx h71).elim
      · refine g_aload0 dX2_readPart_29 ?_
        refine g_iconst dX2_readPart_30 ?_
        refine g_bipush dX2_readPart_31 (by decide) ?_
        refine f_cV2n (readNumber_ok hT hP.len hP.txt hP.pos hP.le ⟨by decide, by decide⟩ ⟨by decide, by decide⟩) rfl (by decide) rfl oY_X2_readNumber oI_X2_readNumber lk_X2_123 rfl dX2_readPart_33 (Nat.zero_le _) (Nat.zero_le _) rfl (Or.inl rfl) (fun v33 σ33 l33 h33 => ?_) (fun e33 σ33 l33 h33 => ?_)
        · obtain ⟨e33, y33⟩ := Rz.split h33
          subst e33
          rcases y33 with ⟨k33, pl33, r33, rfl, n33⟩ | ⟨w33, q33, r33, rfl, n33⟩
          · show GW g _ _ _ _ _ _ (iv 0 :: _) _
            refine g_if_eq ⟨by decide, by decide⟩ (tgt := 54) dX2_readPart_36 rfl (fun h36 => ?_) (fun h36 => absurd h36 (by decide))
            refine g_iconst dX2_readPart_54 ?_
            refine g_iretB (Or.inl rfl) rfl dX2_readPart_55 ?_
            first
              | exact Ry.yes (by unfold rPart; rw [if_neg h3, if_neg h14, if_pos h26]; simp only [r33, r44]) ((h.n9 n33.1 Q33).nt B44.1 B44.2 (rNote_9 r44))
              | exact Ry.no (by unfold rPart; rw [if_neg h3, if_neg h14, if_pos h26]; simp only [r33, r44]) A44
              | exact Ry.no (by unfold rPart; rw [if_neg h3, if_neg h14, if_pos h26]; simp only [r33]) (hP.numF n33)
          · show GW g _ _ _ _ _ _ (iv 1 :: _) _
            obtain ⟨Q33, x33, a33, b33⟩ := hP.num n33 r33
            refine g_if_eq ⟨by decide, by decide⟩ (tgt := 54) dX2_readPart_36 rfl (fun h36 => absurd h36 (by decide)) (fun h36 => ?_)
            refine g_aload0 dX2_readPart_39 ?_
            refine g_aload0 dX2_readPart_40 ?_
            refine f_geti (J := 8) rfl (by decide) rfl rfl fl_X2_41 dX2_readPart_41 ?_
            rw [x33]
            refine f_cV1n (takeNote_ok (t := w33) Q33 n33.2.2.2.2.1 ⟨by omega, by omega⟩) rfl (by decide) rfl oY_X2_takeNote oI_X2_takeNote lk_X2_187 rfl dX2_readPart_44 (Nat.zero_le _) (Nat.zero_le _) rfl (Or.inl rfl) (fun v44 σ44 l44 h44 => ?_) (fun e44 σ44 l44 h44 => ?_)
            · obtain ⟨e44, y44⟩ := Ry.split h44
              subst e44
              rcases y44 with ⟨k44, r44, rfl, A44⟩ | ⟨q44, r44, rfl, B44⟩
              · show GW g _ _ _ _ _ _ (iv 0 :: _) _
                refine g_if_eq ⟨by decide, by decide⟩ (tgt := 54) dX2_readPart_47 rfl (fun h47 => ?_) (fun h47 => absurd h47 (by decide))
                refine g_iconst dX2_readPart_54 ?_
                refine g_iretB (Or.inl rfl) rfl dX2_readPart_55 ?_
                first
                  | exact Ry.yes (by unfold rPart; rw [if_neg h3, if_neg h14, if_pos h26]; simp only [r33, r44]) ((h.n9 n33.1 Q33).nt B44.1 B44.2 (rNote_9 r44))
                  | exact Ry.no (by unfold rPart; rw [if_neg h3, if_neg h14, if_pos h26]; simp only [r33, r44]) A44
                  | exact Ry.no (by unfold rPart; rw [if_neg h3, if_neg h14, if_pos h26]; simp only [r33]) (hP.numF n33)
              · show GW g _ _ _ _ _ _ (iv 1 :: _) _
                refine g_if_eq ⟨by decide, by decide⟩ (tgt := 54) dX2_readPart_47 rfl (fun h47 => absurd h47 (by decide)) (fun h47 => ?_)
                refine g_iconst dX2_readPart_50 ?_
                refine g_goto (tgt := 55) dX2_readPart_51 rfl ?_
                refine g_iretB (Or.inr rfl) rfl dX2_readPart_55 ?_
                first
                  | exact Ry.yes (by unfold rPart; rw [if_neg h3, if_neg h14, if_pos h26]; simp only [r33, r44]) ((h.n9 n33.1 Q33).nt B44.1 B44.2 (rNote_9 r44))
                  | exact Ry.no (by unfold rPart; rw [if_neg h3, if_neg h14, if_pos h26]; simp only [r33, r44]) A44
                  | exact Ry.no (by unfold rPart; rw [if_neg h3, if_neg h14, if_pos h26]; simp only [r33]) (hP.numF n33)
            · exact (Ry.nx h44).elim
        · exact (Rz.nx h33).elim
    · refine g_aload0 dX2_readPart_17 ?_
      refine f_cV0n (readClosing_ok hT h hlt2) rfl (by decide) rfl oY_X2_readClosing oI_X2_readClosing lk_X2_184 rfl dX2_readPart_18 (Nat.zero_le _) (Nat.zero_le _) rfl (Or.inl rfl) (fun v18 σ18 l18 h18 => ?_) (fun e18 σ18 l18 h18 => ?_)
      · obtain ⟨e18, y18⟩ := Ry.split h18
        subst e18
        rcases y18 with ⟨k18, r18, rfl, A18⟩ | ⟨q18, r18, rfl, B18⟩
        · show GW g _ _ _ _ _ _ (iv 0 :: _) _
          refine g_iretB (Or.inl rfl) rfl dX2_readPart_21 ?_
          first
            | exact Ry.no (by unfold rPart; rw [if_neg h3, if_pos h14, r18]) A18
            | exact Ry.yes (by unfold rPart; rw [if_neg h3, if_pos h14, r18]) B18
        · show GW g _ _ _ _ _ _ (iv 1 :: _) _
          refine g_iretB (Or.inr rfl) rfl dX2_readPart_21 ?_
          first
            | exact Ry.no (by unfold rPart; rw [if_neg h3, if_pos h14, r18]) A18
            | exact Ry.yes (by unfold rPart; rw [if_neg h3, if_pos h14, r18]) B18
      · exact (Ry.nx h18).elim
  · refine g_aload0 dX2_readPart_6 ?_
    refine f_cV0n (readOpening_ok hT h hlt1) rfl (by decide) rfl oY_X2_readOpening oI_X2_readOpening lk_X2_181 rfl dX2_readPart_7 (Nat.zero_le _) (Nat.zero_le _) rfl (Or.inl rfl) (fun v7 σ7 l7 h7 => ?_) (fun e7 σ7 l7 h7 => ?_)
    · obtain ⟨e7, y7⟩ := Ry.split h7
      subst e7
      rcases y7 with ⟨k7, r7, rfl, A7⟩ | ⟨q7, r7, rfl, B7⟩
      · show GW g _ _ _ _ _ _ (iv 0 :: _) _
        refine g_iretB (Or.inl rfl) rfl dX2_readPart_10 ?_
        first
          | exact Ry.no (by unfold rPart; rw [if_pos h3, r7]) A7
          | exact Ry.yes (by unfold rPart; rw [if_pos h3, r7]) B7
      · show GW g _ _ _ _ _ _ (iv 1 :: _) _
        refine g_iretB (Or.inr rfl) rfl dX2_readPart_10 ?_
        first
          | exact Ry.no (by unfold rPart; rw [if_pos h3, r7]) A7
          | exact Ry.yes (by unfold rPart; rw [if_pos h3, r7]) B7
    · exact (Ry.nx h7).elim
/-- whether a part of a tune begins so -/
def isPt (c : Int) : Bool := isDg c || isLt c || decide (c = 40)
def rTu (T : Int → Int) (N : Nat) : Nat → (Int → Int) → Nat → Nat → (Nat → Int) → Bool → Sum (Int × Nat) ((Int → Int) × Nat)
  | 0, _, p, _, _, _ => .inl (1, p)
  | f + 1, d, p, o, b, m =>
    if isPt (sgn T N (sk isSp T N p)) = false ∧ m = true then .inl (1, sk isSp T N p)
    else if isPt (sgn T N (sk isSp T N p)) = false ∧ sgn T N (sk isSp T N p) ≠ 41 then (if o = 0 then .inr (d, sk isSp T N p) else .inl (1, sk isSp T N p))
    else match rPart T N d (sk isSp T N p) o b (sgn T N (sk isSp T N p)) with
      | .inl e => .inl e
      | .inr (x, o2, b2) => rTu T N f x.1 x.2 o2 b2 (decide (sgn T N (sk isSp T N p) = 40))
def rTune (T : Int → Int) (N : Nat) (d : Int → Int) (ht : Int) (q p : Nat) : Sum (Int × Nat) ((Int → Int) × Nat) := if ht ≠ 0 then .inl (3, q) else rTu T N 400 d p 0 (fun _ => 0) true
theorem tune_0 {N p o : Nat} {st : Int} {d : Int → Int} {b : Nat → Int} {m : Bool} {nb i : Int} {u3 u4 : Option Value} (hT : TX (σ 10) N) (h : TSt σ N st 1 ((d, p), o, b) τ) (hi : i = 400) : FW g zX2_readTune 0 0 (Ry l (PFt σ N st) (PSt σ N st 1) (rTu (σ 10) N 0 d p o b m)) 31 [some (.ref 9), some (iv nb), some (iv i), u3, u4] [] τ l := by
  have hP := h.p
  subst hi
  refine g_iload2 dX2_readTune_31 ?_
  refine g_sipush dX2_readTune_32 (by decide) ?_
  refine g_icmp_ge ⟨by decide, by decide⟩ ⟨by decide, by decide⟩ (tgt := 157) dX2_readTune_35 rfl (fun h35 => ?_) (fun h35 => absurd h35 (by decide))
  refine g_aload0 dX2_readTune_157 ?_
  refine g_iconst dX2_readTune_158 ?_
  refine g_aload0 dX2_readTune_159 ?_
  refine f_geti (J := 6) rfl (by decide) rfl rfl fl_X2_35 dX2_readTune_160 ?_
  rw [show τ 9 6 = (p : Int) from hP.pos]
  refine f_cV2x (fail_ok) rfl (by decide) rfl oY_X2_fail oI_X2_fail lk_X2_87 rfl dX2_readTune_163 rfl (Or.inl rfl) ?_
  refine g_iretB (Or.inl rfl) rfl dX2_readTune_166 ?_
  exact Ry.no rfl (hP.fail n9_fail (by rw [up_ne (by decide), up_eq]) up_eq)
theorem tune_s {N f p o : Nat} {st : Int} {d : Int → Int} {b : Nat → Int} {m : Bool} {nb i : Int} {u3 u4 : Option Value} (hT : TX (σ 10) N) (h : TSt σ N st 1 ((d, p), o, b) τ) (hi : i = 400 - ((f + 1 : Nat) : Int)) (hf : f < 400) (hnb : nb = if m = true then 1 else 0)
    (ih : ∀ (τ : sT) (d : Int → Int) (p o : Nat) (b : Nat → Int) (m : Bool) (nb i : Int) (u3 u4 : Option Value), TSt σ N st 1 ((d, p), o, b) τ → i = 400 - (f : Int) → nb = (if m = true then 1 else 0) → FW g zX2_readTune 0 0 (Ry l (PFt σ N st) (PSt σ N st 1) (rTu (σ 10) N f d p o b m)) 31 [some (.ref 9), some (iv nb), some (iv i), u3, u4] [] τ l) :
    FW g zX2_readTune 0 0 (Ry l (PFt σ N st) (PSt σ N st 1) (rTu (σ 10) N (f + 1) d p o b m)) 31 [some (.ref 9), some (iv nb), some (iv i), u3, u4] [] τ l := by
  have hP := h.p
  have hle : p ≤ N := hP.le
  have hN := hT.1
  have hs := sk_le (Q := isSp) (T := σ 10) hle
  have hcr := sgn_rng (p := (sk isSp (σ 10) N p)) hT
  have hcR : R32 (sgn (σ 10) N (sk isSp (σ 10) N p)) := ⟨by omega, by omega⟩
  have hn9 : N9 τ (up τ 9 6 ((sk isSp (σ 10) N p) : Int)) := (N9.refl τ).up (by decide)
  have hK : PSt σ N st 1 (d, (sk isSp (σ 10) N p)) (up τ 9 6 ((sk isSp (σ 10) N p) : Int)) := hP.n9 hn9 (by rw [up_ne (by decide)]) (by rw [up_ne (by decide)]) up_eq hs.2
  have hKT := h.n9 hn9 hK
  have hlt : (sgn (σ 10) N (sk isSp (σ 10) N p)) ≠ -1 → (sk isSp (σ 10) N p) + 1 ≤ N := fun z => by
    by_cases c : (sk isSp (σ 10) N p) < N
    · omega
    · exact absurd (if_neg c) z
  have hpart : (isPt (sgn (σ 10) N (sk isSp (σ 10) N p)) = true ∨ ((sgn (σ 10) N (sk isSp (σ 10) N p)) = 41 ∧ m = false)) → ∀ u4 : Option Value, FW g zX2_readTune 0 0 (Ry l (PFt σ N st) (PSt σ N st 1) (rTu (σ 10) N (f + 1) d p o b m)) 129 [some (.ref 9), some (iv nb), some (iv i), some (iv (sgn (σ 10) N (sk isSp (σ 10) N p))), u4] [] (up τ 9 6 ((sk isSp (σ 10) N p) : Int)) l := by
    intro hpt u4
    have hne : (sgn (σ 10) N (sk isSp (σ 10) N p)) ≠ -1 := fun z => by
      rcases hpt with h1 | h1
      · rw [z] at h1; exact absurd h1 (by decide)
      · omega
    have hsp : rTu (σ 10) N (f + 1) d p o b m = (match rPart (σ 10) N d (sk isSp (σ 10) N p) o b (sgn (σ 10) N (sk isSp (σ 10) N p)) with
      | .inl e => .inl e
      | .inr (x, o2, b2) => rTu (σ 10) N f x.1 x.2 o2 b2 (decide ((sgn (σ 10) N (sk isSp (σ 10) N p)) = 40))) := by
      have n1 : ¬ (isPt (sgn (σ 10) N (sk isSp (σ 10) N p)) = false ∧ m = true) := fun z => by
        rcases hpt with h1 | h1
        · rw [h1] at z; exact absurd z.1 (by decide)
        · rw [h1.2] at z; exact absurd z.2 (by decide)
      have n2 : ¬ (isPt (sgn (σ 10) N (sk isSp (σ 10) N p)) = false ∧ (sgn (σ 10) N (sk isSp (σ 10) N p)) ≠ 41) := fun z => by
        rcases hpt with h1 | h1
        · rw [h1] at z; exact absurd z.1 (by decide)
        · exact z.2 h1.1
      rw [rTu, if_neg n1, if_neg n2]
    refine g_aload0 dX2_readTune_129 ?_
    refine g_iload3 dX2_readTune_130 ?_
    refine f_cV1n (readPart_ok hT hKT hcR (fun _ => hlt hne) (fun _ => hlt hne)) rfl (by decide) rfl oY_X2_readPart oI_X2_readPart lk_X2_178 rfl dX2_readTune_131 (Nat.zero_le _) (Nat.zero_le _) rfl (Or.inl rfl) (fun v131 σ131 l131 h131 => ?_) (fun e131 σ131 l131 h131 => ?_)
    · obtain ⟨e131, y131⟩ := Ry.split h131
      subst e131
      rcases y131 with ⟨k131, r131, rfl, A131⟩ | ⟨q131, r131, rfl, B131⟩
      · show GW g _ _ _ _ _ _ (iv 0 :: _) _
        refine g_if_ne ⟨by decide, by decide⟩ (tgt := 139) dX2_readTune_134 rfl (fun h134 => absurd h134 (by decide)) (fun h134 => ?_)
        refine g_iconst dX2_readTune_137 ?_
        refine g_iretB (Or.inl rfl) rfl dX2_readTune_138 ?_
        exact Ry.no (by rw [hsp, r131]) A131
      · show GW g _ _ _ _ _ _ (iv 1 :: _) _
        refine g_if_ne ⟨by decide, by decide⟩ (tgt := 139) dX2_readTune_134 rfl (fun h134 => ?_) (fun h134 => absurd h134 (by decide))
        refine g_iload3 dX2_readTune_139 ?_
        refine g_bipush dX2_readTune_140 (by decide) ?_
        refine g_icmp_ne hcR ⟨by decide, by decide⟩ (tgt := 149) dX2_readTune_142 rfl (fun h142 => ?_) (fun h142 => ?_)
        · refine g_iconst dX2_readTune_149 ?_
          refine g_istore1 dX2_readTune_150 rfl (by decide) ?_
          refine g_iinc2 dX2_readTune_151 rfl (by decide) ?_
          refine g_goto (tgt := 31) dX2_readTune_154 rfl ?_
          rw [hsp, r131]
          first
            | exact ih _ _ _ _ _ _ _ _ _ _ B131 (by omega) (by rw [if_pos (decide_eq_true h142)])
            | exact ih _ _ _ _ _ _ _ _ _ _ B131 (by omega) (by rw [if_neg (fun z => h142 (of_decide_eq_true z))])
        · refine g_iconst dX2_readTune_145 ?_
          refine g_goto (tgt := 150) dX2_readTune_146 rfl ?_
          refine g_istore1 dX2_readTune_150 rfl (by decide) ?_
          refine g_iinc2 dX2_readTune_151 rfl (by decide) ?_
          refine g_goto (tgt := 31) dX2_readTune_154 rfl ?_
          rw [hsp, r131]
          first
            | exact ih _ _ _ _ _ _ _ _ _ _ B131 (by omega) (by rw [if_pos (decide_eq_true h142)])
            | exact ih _ _ _ _ _ _ _ _ _ _ B131 (by omega) (by rw [if_neg (fun z => h142 (of_decide_eq_true z))])
    · exact (Ry.nx h131).elim
  have hnot : isPt (sgn (σ 10) N (sk isSp (σ 10) N p)) = false → FW g zX2_readTune 0 0 (Ry l (PFt σ N st) (PSt σ N st 1) (rTu (σ 10) N (f + 1) d p o b m)) 74 [some (.ref 9), some (iv nb), some (iv i), some (iv (sgn (σ 10) N (sk isSp (σ 10) N p))), some (iv 0)] [] (up τ 9 6 ((sk isSp (σ 10) N p) : Int)) l := by
    intro hpf
    refine g_iload4 dX2_readTune_74 ?_
    refine g_if_ne ⟨by decide, by decide⟩ (tgt := 93) dX2_readTune_76 rfl (fun h76 => absurd h76 (by decide)) (fun h76 => ?_)
    refine g_iload1 dX2_readTune_79 ?_
    refine g_if_eq ⟨by split at hnb <;> omega, by split at hnb <;> omega⟩ (tgt := 93) dX2_readTune_80 rfl (fun h80 => ?_) (fun h80 => ?_)
    · have hmf : m = false := by
        cases m
        · rfl
        · rw [if_pos rfl] at hnb; omega
      refine g_iload4 dX2_readTune_93 ?_
      refine g_if_ne ⟨by decide, by decide⟩ (tgt := 129) dX2_readTune_95 rfl (fun h95 => absurd h95 (by decide)) (fun h95 => ?_)
      refine g_iload3 dX2_readTune_98 ?_
      refine g_bipush dX2_readTune_99 (by decide) ?_
      refine g_icmp_eq hcR ⟨by decide, by decide⟩ (tgt := 129) dX2_readTune_101 rfl (fun h101 => ?_) (fun h101 => ?_)
      · exact hpart (Or.inr ⟨h101, hmf⟩) _
      · refine g_aload0 dX2_readTune_104 ?_
        refine f_geti (J := 10) rfl (by decide) rfl rfl fl_X2_48 dX2_readTune_105 ?_
        rw [up_ne (by decide), h.o]
        refine g_if_eq ⟨by have := h.o4; omega, by have := h.o4; omega⟩ (tgt := 123) dX2_readTune_108 rfl (fun h108 => ?_) (fun h108 => ?_)
        · refine g_iconst dX2_readTune_123 ?_
          refine g_goto (tgt := 128) dX2_readTune_124 rfl ?_
          refine g_iretB (Or.inr rfl) rfl dX2_readTune_128 ?_
          first
            | exact Ry.yes (by rw [rTu, if_neg (fun z => by rw [hmf] at z; exact absurd z.2 (by decide)), if_pos ⟨hpf, h101⟩, if_pos (by omega)]) hK
            | exact Ry.no (by rw [rTu, if_neg (fun z => by rw [hmf] at z; exact absurd z.2 (by decide)), if_pos ⟨hpf, h101⟩, if_neg (by omega)]) (hK.fail n9_fail (by rw [up_ne (by decide), up_eq]) up_eq)
        · refine g_aload0 dX2_readTune_111 ?_
          refine g_iconst dX2_readTune_112 ?_
          refine g_aload0 dX2_readTune_113 ?_
          refine f_geti (J := 6) rfl (by decide) rfl rfl fl_X2_35 dX2_readTune_114 ?_
          rw [up_eq]
          refine f_cV2x (fail_ok) rfl (by decide) rfl oY_X2_fail oI_X2_fail lk_X2_87 rfl dX2_readTune_117 rfl (Or.inl rfl) ?_
          refine g_if_eq ⟨by decide, by decide⟩ (tgt := 127) dX2_readTune_120 rfl (fun h120 => ?_) (fun h120 => absurd h120 (by decide))
          refine g_iconst dX2_readTune_127 ?_
          refine g_iretB (Or.inl rfl) rfl dX2_readTune_128 ?_
          first
            | exact Ry.yes (by rw [rTu, if_neg (fun z => by rw [hmf] at z; exact absurd z.2 (by decide)), if_pos ⟨hpf, h101⟩, if_pos (by omega)]) hK
            | exact Ry.no (by rw [rTu, if_neg (fun z => by rw [hmf] at z; exact absurd z.2 (by decide)), if_pos ⟨hpf, h101⟩, if_neg (by omega)]) (hK.fail n9_fail (by rw [up_ne (by decide), up_eq]) up_eq)
    · refine g_aload0 dX2_readTune_83 ?_
      refine g_iconst dX2_readTune_84 ?_
      refine g_aload0 dX2_readTune_85 ?_
      refine f_geti (J := 6) rfl (by decide) rfl rfl fl_X2_35 dX2_readTune_86 ?_
      rw [up_eq]
      refine f_cV2x (fail_ok) rfl (by decide) rfl oY_X2_fail oI_X2_fail lk_X2_87 rfl dX2_readTune_89 rfl (Or.inl rfl) ?_
      refine g_iretB (Or.inl rfl) rfl dX2_readTune_92 ?_
      have hmt : m = true := by
        cases m
        · rw [if_neg (by decide)] at hnb; omega
        · rfl
      exact Ry.no (by rw [rTu, if_pos ⟨hpf, hmt⟩]) (hK.fail n9_fail (by rw [up_ne (by decide), up_eq]) up_eq)
  have hyes : isPt (sgn (σ 10) N (sk isSp (σ 10) N p)) = true → FW g zX2_readTune 0 0 (Ry l (PFt σ N st) (PSt σ N st 1) (rTu (σ 10) N (f + 1) d p o b m)) 74 [some (.ref 9), some (iv nb), some (iv i), some (iv (sgn (σ 10) N (sk isSp (σ 10) N p))), some (iv 1)] [] (up τ 9 6 ((sk isSp (σ 10) N p) : Int)) l := by
    intro hpt
    refine g_iload4 dX2_readTune_74 ?_
    refine g_if_ne ⟨by decide, by decide⟩ (tgt := 93) dX2_readTune_76 rfl (fun h76 => ?_) (fun h76 => absurd h76 (by decide))
    refine g_iload4 dX2_readTune_93 ?_
    refine g_if_ne ⟨by decide, by decide⟩ (tgt := 129) dX2_readTune_95 rfl (fun h95 => ?_) (fun h95 => absurd h95 (by decide))
    exact hpart (Or.inl hpt) _
  refine g_iload2 dX2_readTune_31 ?_
  refine g_sipush dX2_readTune_32 (by decide) ?_
  refine g_icmp_ge ⟨by omega, by omega⟩ ⟨by decide, by decide⟩ (tgt := 157) dX2_readTune_35 rfl (fun h35 => absurd h35 (by omega)) (fun h35 => ?_)
  refine g_aload0 dX2_readTune_38 ?_
  refine f_cV0d (skipSpaces_ok hT hP.len hP.txt hP.pos hP.le) rfl (by decide) rfl oY_X2_skipSpaces oI_X2_skipSpaces lk_X2_84 rfl dX2_readTune_39 rfl (Or.inl rfl) ?_
  refine g_aload0 dX2_readTune_42 ?_
  refine f_cV0w (sign_ok hT hK.len hK.txt (p := (sk isSp (σ 10) N p)) up_eq hs.2) rfl (by decide) rfl oY_X2_sign oI_X2_sign lk_X2_80 rfl dX2_readTune_43 rfl (Or.inl rfl) ?_
  refine g_istore3 dX2_readTune_46 rfl (by decide) ?_
  refine g_iload3 dX2_readTune_47 ?_
  refine f_cS1w (isDigit_ok hcR) oY_X2_isDigit oT_X2_isDigit lk_X2_104 rfl dX2_readTune_48 rfl (Or.inl rfl) ?_
  refine g_ifneB (tgt := 67) dX2_readTune_51 rfl (fun h51 => ?_) (fun h51 => ?_)
  · refine g_iconst dX2_readTune_67 ?_
    refine g_goto (tgt := 72) dX2_readTune_68 rfl ?_
    refine g_istore4 dX2_readTune_72 rfl (by decide) ?_
    first
      | exact hyes (by unfold isPt; rw [h51]; rfl)
      | exact hyes (by unfold isPt; rw [h58, Bool.or_true]; rfl)
      | exact hyes (by unfold isPt; rw [decide_eq_true h64, Bool.or_true])
      | exact hnot (by unfold isPt; rw [Bool.eq_false_iff.mpr h51, Bool.eq_false_iff.mpr h58, decide_eq_false h64]; rfl)
  · refine g_iload3 dX2_readTune_54 ?_
    refine f_cS1w (isLetter_ok hcR) oY_X2_isLetter oT_X2_isLetter lk_X2_91 rfl dX2_readTune_55 rfl (Or.inl rfl) ?_
    refine g_ifneB (tgt := 67) dX2_readTune_58 rfl (fun h58 => ?_) (fun h58 => ?_)
    · refine g_iconst dX2_readTune_67 ?_
      refine g_goto (tgt := 72) dX2_readTune_68 rfl ?_
      refine g_istore4 dX2_readTune_72 rfl (by decide) ?_
      first
        | exact hyes (by unfold isPt; rw [h51]; rfl)
        | exact hyes (by unfold isPt; rw [h58, Bool.or_true]; rfl)
        | exact hyes (by unfold isPt; rw [decide_eq_true h64, Bool.or_true])
        | exact hnot (by unfold isPt; rw [Bool.eq_false_iff.mpr h51, Bool.eq_false_iff.mpr h58, decide_eq_false h64]; rfl)
    · refine g_iload3 dX2_readTune_61 ?_
      refine g_bipush dX2_readTune_62 (by decide) ?_
      refine g_icmp_ne hcR ⟨by decide, by decide⟩ (tgt := 71) dX2_readTune_64 rfl (fun h64 => ?_) (fun h64 => ?_)
      · refine g_iconst dX2_readTune_71 ?_
        refine g_istore4 dX2_readTune_72 rfl (by decide) ?_
        first
          | exact hyes (by unfold isPt; rw [h51]; rfl)
          | exact hyes (by unfold isPt; rw [h58, Bool.or_true]; rfl)
          | exact hyes (by unfold isPt; rw [decide_eq_true h64, Bool.or_true])
          | exact hnot (by unfold isPt; rw [Bool.eq_false_iff.mpr h51, Bool.eq_false_iff.mpr h58, decide_eq_false h64]; rfl)
      · refine g_iconst dX2_readTune_67 ?_
        refine g_goto (tgt := 72) dX2_readTune_68 rfl ?_
        refine g_istore4 dX2_readTune_72 rfl (by decide) ?_
        first
          | exact hyes (by unfold isPt; rw [h51]; rfl)
          | exact hyes (by unfold isPt; rw [h58, Bool.or_true]; rfl)
          | exact hyes (by unfold isPt; rw [decide_eq_true h64, Bool.or_true])
          | exact hnot (by unfold isPt; rw [Bool.eq_false_iff.mpr h51, Bool.eq_false_iff.mpr h58, decide_eq_false h64]; rfl)
theorem tune_l {N : Nat} {st : Int} (hT : TX (σ 10) N) : ∀ f : Nat, f ≤ 400 → ∀ (τ : sT) (d : Int → Int) (p o : Nat) (b : Nat → Int) (m : Bool) (nb i : Int) (u3 u4 : Option Value), TSt σ N st 1 ((d, p), o, b) τ → i = 400 - (f : Int) → nb = (if m = true then 1 else 0) → FW g zX2_readTune 0 0 (Ry l (PFt σ N st) (PSt σ N st 1) (rTu (σ 10) N f d p o b m)) 31 [some (.ref 9), some (iv nb), some (iv i), u3, u4] [] τ l := by
  intro f
  induction f with
  | zero => intro _ τ d p o b m nb i u3 u4 h hi hnb; exact tune_0 hT h (by omega)
  | succ f ih => intro hf τ d p o b m nb i u3 u4 h hi hnb; exact tune_s hT h hi (by omega) hnb (ih (by omega))
theorem readTune_ok {N p q : Nat} {st ht : Int} {d : Int → Int} (hT : TX (σ 10) N) (h : PSt σ N st ht (d, p) τ) (h7 : τ 9 7 = (q : Int)) (hht : ht = 0 ∨ ht = 1) : Fn g zX2_readTune 0 0 [.ref 9] τ l (Ry l (PFt σ N st) (PSt σ N st 1) (rTune (σ 10) N d ht q p)) := by
  have hz : TSt σ N st 1 ((d, p), 0, fun _ => 0) (up (up τ 9 9 1) 9 10 0) := ⟨⟨fun a a0 a1 => by rw [up_n a0, up_n a0]; exact h.fr a a0 a1, by rw [up_ne (by decide), up_ne (by decide)]; exact h.len, by rw [up_ne (by decide), up_ne (by decide)]; exact h.err, by rw [up_ne (by decide), up_ne (by decide)]; exact h.pl, by rw [up_ne (by decide), up_ne (by decide)]; exact h.stm, by rw [up_ne (by decide), up_ne (by decide)]; exact h.pos, by rw [up_ne (by decide), up_eq], h.c.frame (by rw [up_n (by decide), up_n (by decide)]) (by rw [up_n (by decide), up_n (by decide)]) (by rw [up_n (by decide), up_n (by decide)]) (by rw [up_n (by decide), up_n (by decide)]), h.s, h.le⟩, up_eq, Nat.zero_le _, fun j hj => absurd hj (Nat.not_lt_zero _), fun j hj => absurd hj (Nat.not_lt_zero _)⟩
  refine Fn.of [some (.ref 9), none, none, none, none] rfl (by decide) (Nat.le_of_ble_eq_true rfl) rfl ?_
  refine g_aload0 dX2_readTune_0 ?_
  refine f_geti (J := 9) rfl (by decide) rfl rfl fl_X2_44 dX2_readTune_1 ?_
  rw [show τ 9 9 = ht from h.tun]
  refine g_if_eq ⟨by omega, by omega⟩ (tgt := 17) dX2_readTune_4 rfl (fun h4 => ?_) (fun h4 => ?_)
  · refine g_aload0 dX2_readTune_17 ?_
    refine g_iconst dX2_readTune_18 ?_
    refine f_putz (J := 9) (by decide) rfl (by decide) rfl rfl fl_X2_44 rfl (fun _ _ _ h => by cases h; rfl) dX2_readTune_19 ?_
    refine g_aload0 dX2_readTune_22 ?_
    refine g_iconst dX2_readTune_23 ?_
    refine f_puti (J := 10) rfl (by decide) rfl rfl fl_X2_48 rfl (fun _ _ _ h => by cases h; rfl) dX2_readTune_24 ?_
    refine g_iconst dX2_readTune_27 ?_
    refine g_istore1 dX2_readTune_28 rfl (by decide) ?_
    refine g_iconst dX2_readTune_29 ?_
    refine g_istore2 dX2_readTune_30 rfl (by decide) ?_
    have e0 : rTune (σ 10) N d ht q p = rTu (σ 10) N 400 d p 0 (fun _ => 0) true := by unfold rTune; rw [if_neg (fun z => z h4)]
    rw [e0]
    exact tune_l hT 400 (Nat.le_refl _) _ _ _ _ _ _ _ _ _ _ hz rfl rfl
  · refine g_aload0 dX2_readTune_7 ?_
    refine g_iconst dX2_readTune_8 ?_
    refine g_aload0 dX2_readTune_9 ?_
    refine f_geti (J := 7) rfl (by decide) rfl rfl fl_X2_38 dX2_readTune_10 ?_
    rw [h7]
    refine f_cV2x (fail_ok) rfl (by decide) rfl oY_X2_fail oI_X2_fail lk_X2_87 rfl dX2_readTune_13 rfl (Or.inl rfl) ?_
    refine g_iretB (Or.inl rfl) rfl dX2_readTune_16 ?_
    exact Ry.no (by unfold rTune; rw [if_pos h4]) (h.fail n9_fail (by rw [up_ne (by decide), up_eq]) up_eq)
end C63
