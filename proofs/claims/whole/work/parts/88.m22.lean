/-! The model's reader: the tune -/
section C88
variable {g : gT} {σ τ : sT} {l : Nat → Nat}
theorem g_ldcwS {y : yT} {k n : Nat} {Φ : mO → mM → Prop} {pc : Nat} {L : List (Option Value)} {st : List Value} {M : mM} {idx i : Nat} {tx : String} (hw : ((yN y).cls, idx, tx, i) ∈ STN) (hd : decode (yB y) pc = .ok (.ldc_w idx, 3)) (h : GW g y k n Φ (pc + 3) L (.ref (KB + (2 + i)) :: st) M) : GW g y k n Φ pc L st M := by
  intro p e R s m args below meth c H locs cells slots ν ν0 n0 ls C hc hs hM hk hn hS hl
  have hG := C.2.2.2.2.2.2.2.2.2.2.2
  have h1 := h p e R s m args below meth c H locs cells slots ν ν0 n0 ls C hc hs hM hk hn hS hl
  rw [List.map_cons, show rV g ν (.ref (KB + (2 + i))) = .ref (gk g (2 + i)) from congrArg Value.ref rN_ge] at h1
  have hZ := hG.2.2.2.2.2.2.2.2.2.2.2.1 _ hw
  intro T hT X
  obtain ⟨t, a1, b1⟩ := h1 T hT X
  exact ⟨t, X.ldcStringW C.1 C.2.2.2.1 hZ.1 hZ.2 (g := F0 m pc ls _) rfl (by rw [C.2.1]; exact hd) t a1, b1⟩
/-- what the tune's reading leaves: a bracket too much is told by the loop that called it -/
def TA (σ : sT) (N : Nat) (st : Int) (e : Int × Nat) (ρ : sT) : Prop := PFm σ st e ρ ∨ (e.1 = 1 ∧ e.2 < N ∧ σ 105 (e.2 : Int) = 41 ∧ ∃ d, PSm σ N st (d, e.2) ρ)
def TB2 (σ : sT) (N : Nat) (st : Int) (x : (Int → Int) × Nat) (ρ : sT) : Prop := PSm σ N st x ρ ∧ SOK 0 x.1
theorem PSm.look {N p q : Nat} {st : Int} {d : Int → Int} (h : PSm σ N st (d, p) τ) (hq : q ≤ N) : PSm σ N st (d, q) (up (up τ 92 16 (q : Int)) 92 17 (q : Int)) := ⟨(h.1.u9 (by omega)).u9 (by omega), by rw [up_ne (fun z => by omega), up_ne (fun z => by omega)]; exact h.2.1, by rw [up_ne (fun z => by omega), up_ne (fun z => by omega)]; exact h.2.2.1, by rw [up_ne (fun z => by omega), up_ne (fun z => by omega)]; exact h.2.2.2.1, by rw [up_ne (fun z => by omega), up_eq], by rw [up_n (by decide), up_n (by decide)]; exact h.2.2.2.2.2.1, hq⟩
theorem PSm.word {N p q e : Nat} {st : Int} {d : Int → Int} (h : PSm σ N st (d, p) τ) (hq : e ≤ N) : PSm σ N st (d, e) (up (up τ 92 17 (q : Int)) 92 16 (e : Int)) := ⟨(h.1.u9 (by omega)).u9 (by omega), by rw [up_ne (fun z => by omega), up_ne (fun z => by omega)]; exact h.2.1, by rw [up_ne (fun z => by omega), up_ne (fun z => by omega)]; exact h.2.2.1, by rw [up_ne (fun z => by omega), up_ne (fun z => by omega)]; exact h.2.2.2.1, up_eq, by rw [up_n (by decide), up_n (by decide)]; exact h.2.2.2.2.2.1, hq⟩
theorem PSm.at1 {N p : Nat} {st : Int} {d : Int → Int} (h : PSm σ N st (d, p) τ) (hq : p + 1 ≤ N) : PSm σ N st (d, p + 1) (up τ 92 16 ((p : Int) + 1)) := ⟨h.1.u9 (by omega), by rw [up_ne (fun z => by omega)]; exact h.2.1, by rw [up_ne (fun z => by omega)]; exact h.2.2.1, by rw [up_ne (fun z => by omega)]; exact h.2.2.2.1, by rw [up_eq]; push_cast; rfl, by rw [up_n (by decide)]; exact h.2.2.2.2.2.1, hq⟩
theorem PSm.beg {N : Nat} {st j v : Int} {q : (Int → Int) × Nat} (h : PSm σ N st q τ) : PSm σ N st q (up τ 106 j v) := ⟨h.1.up6, by rw [up_n (by decide)]; exact h.2.1, by rw [up_n (by decide)]; exact h.2.2.1, by rw [up_n (by decide)]; exact h.2.2.2.1, by rw [up_n (by decide)]; exact h.2.2.2.2.1, by rw [up_n (by decide)]; exact h.2.2.2.2.2.1, h.2.2.2.2.2.2⟩
theorem PSm.ln {N : Nat} {st : Int} {q : (Int → Int) × Nat} (h : PSm σ N st q τ) (hln : σ 92 15 = (N : Int)) : τ 92 15 = (N : Int) := (h.1.2 15 (by decide) (by decide) (by decide) (by decide) (by decide)).trans hln
theorem PSm.tx {N : Nat} {st : Int} {q : (Int → Int) × Nat} (h : PSm σ N st q τ) : τ 105 = σ 105 := h.1.1 105 (by decide) (by decide) (by decide)
theorem sk_ne {Q : Int → Bool} {T : Int → Int} {N p : Nat} (h : p < N) (hq : Q (T p) = true) : p < sk Q T N p := by
  rw [sk_s h hq]
  have := sk_le (Q := Q) (T := T) (N := N) (p := p + 1) h
  omega
theorem sgn_lt {T : Int → Int} {N p : Nat} (h : sgn T N p ≠ -1) : p < N := by
  apply Classical.byContradiction
  intro z
  exact h (by unfold sgn; rw [if_neg z])
theorem rClose_r {T : Int → Int} {N : Nat} {d : Int → Int} {p o : Nat} {b : Nat → Int} (h : o ≠ 0) : rClose T N d p o b = match rRep T N d (b (o - 1)) (p + 1) with
  | .inl e => .inl e
  | .inr x => .inr (x, o - 1, b) := by
  unfold rClose rRep
  rw [if_neg h]
  rcases rNum T N 1 9 (p + 1) with e | ⟨v, e⟩
  · rfl
  · simp only
    split <;> rfl
theorem tuneM_F {N : Nat} {st o m gg : Int} {u4 u5 : Option Value} {e : Int × Nat} {r : Sum (Int × Nat) ((Int → Int) × Nat)} (h : PFm σ st e τ) (hr : r = .inl e) (hg : gg = 0 ∨ gg = 1) : FW g zX6_readsTune 0 0 (Rv l (TA σ N st) (TB2 σ N st) (r)) 6 [some (.ref 92), some (iv o), some (iv m), some (iv gg), u4, u5] [] τ l := by
  have hf := fine_n (g := g) (l := l) h
  refine g_iload3 dX6_readsTune_6 ?_
  refine g_if_eq ⟨by omega, by omega⟩ (tgt := 208) dX6_readsTune_7 rfl (fun h7 => ?_) (fun h7 => ?_)
  · refine g_return rfl dX6_readsTune_208 ?_
    exact Rv.no hr (Or.inl h)
  · refine g_aload0 dX6_readsTune_10 ?_
    refine f_cV0w (hf) rfl (by decide) rfl oY_X6_isFine oI_X6_isFine lk_X6_230 rfl dX6_readsTune_11 rfl (Or.inl rfl) ?_
    refine g_if_eq ⟨by decide, by decide⟩ (tgt := 208) dX6_readsTune_14 rfl (fun h14 => ?_) (fun h14 => absurd h14 (by decide))
    refine g_return rfl dX6_readsTune_208 ?_
    exact Rv.no hr (Or.inl h)
theorem tuneM_G {N : Nat} {st o m : Int} {u4 u5 : Option Value} {r : Sum (Int × Nat) ((Int → Int) × Nat)} (h : fΦ (Rv l (TA σ N st) (TB2 σ N st) (r)) (.inl none) (mem τ l)) : FW g zX6_readsTune 0 0 (Rv l (TA σ N st) (TB2 σ N st) (r)) 6 [some (.ref 92), some (iv o), some (iv m), some (iv 0), u4, u5] [] τ l := by
  refine g_iload3 dX6_readsTune_6 ?_
  refine g_if_eq ⟨by decide, by decide⟩ (tgt := 208) dX6_readsTune_7 rfl (fun h7 => ?_) (fun h7 => absurd h7 (by decide))
  refine g_return rfl dX6_readsTune_208 ?_
  exact h
theorem tuneM {N : Nat} {st : Int} (hT : TX (σ 105) N) (hln : σ 92 15 = (N : Int)) : ∀ (f : Nat) (d : Int → Int) (p o : Nat) (b : Nat → Int) (m : Bool) (τ : sT) (nm : Int) (u4 u5 : Option Value), PSm σ N st (d, p) τ → SOK 0 d → o ≤ 4 → (∀ j : Nat, j < o → τ 106 j = b j ∧ 0 ≤ b j ∧ b j ≤ d 9) → N - p < f → nm = (if m = true then 1 else 0) → FW g zX6_readsTune 0 0 (Rv l (TA σ N st) (TB2 σ N st) (rTu (σ 105) N f d p o b m)) 6 [some (.ref 92), some (iv (o : Int)), some (iv nm), some (iv 1), u4, u5] [] τ l := by
  intro f
  induction f with
  | zero => intro d p o b m τ nm u4 u5 h ho ho4 hb hf; omega
  | succ f ih =>
    intro d p o b m τ nm u4 u5 h ho ho4 hb hf hnm
    have hN := hT.1
    have hpN := h.2.2.2.2.2.2
    have hs := sk_le (Q := isSp) (T := σ 105) hpN
    obtain ⟨q, hq⟩ : ∃ q, q = sk isSp (σ 105) N p := ⟨_, rfl⟩
    have hlook := looks_m (g := g) (l := l) hT (h.ln hln) h.tx h.2.2.2.2.1 hpN
    rw [← hq] at hlook hs
    have hK := h.look (q := q) hs.2
    obtain ⟨ρ, hρ⟩ : ∃ ρ : sT, ρ = up (up τ 92 16 (q : Int)) 92 17 (q : Int) := ⟨_, rfl⟩
    rw [← hρ] at hK hlook
    have hfr : ρ 92 17 = (q : Int) := by rw [hρ, up_eq]
    have hbe : ∀ j : Nat, j < o → ρ 106 j = b j ∧ 0 ≤ b j ∧ b j ≤ d 9 := fun j hj => by rw [hρ, up_n (by decide), up_n (by decide)]; exact hb j hj
    have hsg := sgn_rng (p := q) hT
    obtain ⟨c, hc⟩ : ∃ c, c = sgn (σ 105) N q := ⟨_, rfl⟩
    rw [← hc] at hlook hsg
    have hqN : c ≠ -1 → q < N := fun z => sgn_lt (by rw [← hc]; exact z)
    have hcT : c ≠ -1 → σ 105 (q : Int) = c := fun z => by rw [hc, sgn_at (hqN z)]
    have hru : rTu (σ 105) N (f + 1) d p o b m = if isPt c = false ∧ m = true then .inl (1, q) else if isPt c = false ∧ c ≠ 41 then (if o = 0 then .inr (d, q) else .inl (1, q)) else match rPart (σ 105) N d q o b c with
      | .inl e => .inl e
      | .inr (x, o2, b2) => rTu (σ 105) N f x.1 x.2 o2 b2 (decide (c = 40)) := by rw [hc, hq]; rfl
    have hfy := fine_y (g := g) (l := l) h
    have hdg := isDigit_m (g := g) (l := l) (σ := ρ) (c := c) ⟨by omega, by omega⟩
    have hlt := isLetter_m (g := g) (l := l) (σ := ρ) (c := c) ⟨by omega, by omega⟩
    have o9 := ho.notes
    have hnm01 : nm = 0 ∨ nm = 1 := by rw [hnm]; split <;> omega
    rw [hru]
    by_cases cd : isDg c = true
    · rw [bvT cd] at hdg
      have hpt : isPt c = true := by unfold isPt; rw [cd]; rfl
      have c48 : 48 ≤ c ∧ c ≤ 57 := of_decide_eq_true cd
      rw [if_neg (fun z => by rw [hpt] at z; cases z.1), if_neg (fun z => by rw [hpt] at z; cases z.1)]
      rcases hr1 : rNum (σ 105) N 0 24 q with e | ⟨v, e⟩
      · refine g_iload3 dX6_readsTune_6 ?_
        refine g_if_eq ⟨by decide, by decide⟩ (tgt := 208) dX6_readsTune_7 rfl (fun h7 => absurd h7 (by decide)) (fun h7 => ?_)
        refine g_aload0 dX6_readsTune_10 ?_
        refine f_cV0w (hfy) rfl (by decide) rfl oY_X6_isFine oI_X6_isFine lk_X6_230 rfl dX6_readsTune_11 rfl (Or.inl rfl) ?_
        refine g_if_eq ⟨by decide, by decide⟩ (tgt := 208) dX6_readsTune_14 rfl (fun h14 => absurd h14 (by decide)) (fun h14 => ?_)
        refine g_aload0 dX6_readsTune_17 ?_
        refine f_cV0x (hlook) rfl (by decide) rfl oY_X6_looks oI_X6_looks lk_X6_216 rfl dX6_readsTune_18 rfl (Or.inl rfl) ?_
        refine g_istore4 dX6_readsTune_21 rfl (by decide) ?_
        refine g_iload4 dX6_readsTune_23 ?_
        refine f_cS1w (hdg) oY_X6_isDigit oT_X6_isDigit lk_X6_234 rfl dX6_readsTune_25 rfl (Or.inl rfl) ?_
        refine g_if_eq ⟨by decide, by decide⟩ (tgt := 51) dX6_readsTune_28 rfl (fun h28 => absurd h28 (by decide)) (fun h28 => ?_)
        refine g_aload0 dX6_readsTune_31 ?_
        refine g_iconst dX6_readsTune_32 ?_
        refine g_bipush dX6_readsTune_33 (by decide) ?_
        refine f_cV2q (number_n hT hln hK ⟨by decide, by decide⟩ ⟨by decide, by decide⟩ hr1) rfl (by decide) rfl oY_X6_number oI_X6_number lk_X6_250 rfl dX6_readsTune_35 (by omega) (by omega) rfl (Or.inl rfl) (fun σ35 l35 h35 => ?_)
        have el35 := h35.1
        subst el35
        have F1 := h35.2.1
        refine g_istore5 dX6_readsTune_38 rfl (by decide) ?_
        refine g_aload0 dX6_readsTune_40 ?_
        refine g_iload5 dX6_readsTune_41 ?_
        refine f_cV1d (notes_f F1) rfl (by decide) rfl oY_X6_notes oI_X6_notes lk_X6_270 rfl dX6_readsTune_43 rfl (Or.inl rfl) ?_
        refine g_iconst dX6_readsTune_46 ?_
        refine g_istore2 dX6_readsTune_47 rfl (by decide) ?_
        refine g_goto (tgt := 205) dX6_readsTune_48 rfl ?_
        refine g_goto (tgt := 6) dX6_readsTune_205 rfl ?_
        have hrp : rPart (σ 105) N d q o b c = .inl e := by unfold rPart; rw [if_neg (by omega), if_neg (by omega), if_pos cd]; simp only [hr1]
        rw [hrp]
        exact tuneM_F F1 rfl (Or.inr rfl)
      · rcases hr2 : rNote d (sk isSp (σ 105) N q) v with e2 | d2
        · refine g_iload3 dX6_readsTune_6 ?_
          refine g_if_eq ⟨by decide, by decide⟩ (tgt := 208) dX6_readsTune_7 rfl (fun h7 => absurd h7 (by decide)) (fun h7 => ?_)
          refine g_aload0 dX6_readsTune_10 ?_
          refine f_cV0w (hfy) rfl (by decide) rfl oY_X6_isFine oI_X6_isFine lk_X6_230 rfl dX6_readsTune_11 rfl (Or.inl rfl) ?_
          refine g_if_eq ⟨by decide, by decide⟩ (tgt := 208) dX6_readsTune_14 rfl (fun h14 => absurd h14 (by decide)) (fun h14 => ?_)
          refine g_aload0 dX6_readsTune_17 ?_
          refine f_cV0x (hlook) rfl (by decide) rfl oY_X6_looks oI_X6_looks lk_X6_216 rfl dX6_readsTune_18 rfl (Or.inl rfl) ?_
          refine g_istore4 dX6_readsTune_21 rfl (by decide) ?_
          refine g_iload4 dX6_readsTune_23 ?_
          refine f_cS1w (hdg) oY_X6_isDigit oT_X6_isDigit lk_X6_234 rfl dX6_readsTune_25 rfl (Or.inl rfl) ?_
          refine g_if_eq ⟨by decide, by decide⟩ (tgt := 51) dX6_readsTune_28 rfl (fun h28 => absurd h28 (by decide)) (fun h28 => ?_)
          refine g_aload0 dX6_readsTune_31 ?_
          refine g_iconst dX6_readsTune_32 ?_
          refine g_bipush dX6_readsTune_33 (by decide) ?_
          refine f_cV2q (number_y hT hln hK ⟨by decide, by decide⟩ ⟨by decide, by decide⟩ hr1) rfl (by decide) rfl oY_X6_number oI_X6_number lk_X6_250 rfl dX6_readsTune_35 (by omega) (by omega) rfl (Or.inl rfl) (fun σ35 l35 h35 => ?_)
          have el35 := h35.1
          subst el35
          have Q1 := h35.2.1
          have hvr := rNum_r hr1
          refine g_istore5 dX6_readsTune_38 rfl (by decide) ?_
          refine g_aload0 dX6_readsTune_40 ?_
          refine g_iload5 dX6_readsTune_41 ?_
          refine f_cV1m ((Fn.mono (notes_m Q1 ho h35.2.2.1) (fun o ρ l' k => ⟨k.2.1, k.1, by have k2 := k.2.2; rw [hr2] at k2; exact k2⟩) : Fu g zX6_notes 0 0 [.ref 92, iv v] σ35 l35 (fun ρ l' => l' = l35 ∧ PFm σ st e2 ρ))) rfl (by decide) rfl oY_X6_notes oI_X6_notes lk_X6_270 rfl dX6_readsTune_43 (by omega) (by omega) rfl (Or.inl rfl) (fun σ43 l43 h43 => ?_)
          have el43 := h43.1
          subst el43
          have K1 := h43.2
          refine g_iconst dX6_readsTune_46 ?_
          refine g_istore2 dX6_readsTune_47 rfl (by decide) ?_
          refine g_goto (tgt := 205) dX6_readsTune_48 rfl ?_
          refine g_goto (tgt := 6) dX6_readsTune_205 rfl ?_
          have hrp : rPart (σ 105) N d q o b c = .inl e2 := by unfold rPart; rw [if_neg (by omega), if_neg (by omega), if_pos cd]; simp only [hr1, hr2]
          rw [hrp]
          exact tuneM_F K1 rfl (Or.inr rfl)
        · refine g_iload3 dX6_readsTune_6 ?_
          refine g_if_eq ⟨by decide, by decide⟩ (tgt := 208) dX6_readsTune_7 rfl (fun h7 => absurd h7 (by decide)) (fun h7 => ?_)
          refine g_aload0 dX6_readsTune_10 ?_
          refine f_cV0w (hfy) rfl (by decide) rfl oY_X6_isFine oI_X6_isFine lk_X6_230 rfl dX6_readsTune_11 rfl (Or.inl rfl) ?_
          refine g_if_eq ⟨by decide, by decide⟩ (tgt := 208) dX6_readsTune_14 rfl (fun h14 => absurd h14 (by decide)) (fun h14 => ?_)
          refine g_aload0 dX6_readsTune_17 ?_
          refine f_cV0x (hlook) rfl (by decide) rfl oY_X6_looks oI_X6_looks lk_X6_216 rfl dX6_readsTune_18 rfl (Or.inl rfl) ?_
          refine g_istore4 dX6_readsTune_21 rfl (by decide) ?_
          refine g_iload4 dX6_readsTune_23 ?_
          refine f_cS1w (hdg) oY_X6_isDigit oT_X6_isDigit lk_X6_234 rfl dX6_readsTune_25 rfl (Or.inl rfl) ?_
          refine g_if_eq ⟨by decide, by decide⟩ (tgt := 51) dX6_readsTune_28 rfl (fun h28 => absurd h28 (by decide)) (fun h28 => ?_)
          refine g_aload0 dX6_readsTune_31 ?_
          refine g_iconst dX6_readsTune_32 ?_
          refine g_bipush dX6_readsTune_33 (by decide) ?_
          refine f_cV2q (number_y hT hln hK ⟨by decide, by decide⟩ ⟨by decide, by decide⟩ hr1) rfl (by decide) rfl oY_X6_number oI_X6_number lk_X6_250 rfl dX6_readsTune_35 (by omega) (by omega) rfl (Or.inl rfl) (fun σ35 l35 h35 => ?_)
          have el35 := h35.1
          subst el35
          have Q1 := h35.2.1
          have hvr := rNum_r hr1
          refine g_istore5 dX6_readsTune_38 rfl (by decide) ?_
          refine g_aload0 dX6_readsTune_40 ?_
          refine g_iload5 dX6_readsTune_41 ?_
          refine f_cV1m ((Fn.mono (notes_m Q1 ho h35.2.2.1) (fun o ρ l' k => ⟨k.2.1, k.1, by have k2 := k.2.2; rw [hr2] at k2; exact k2⟩) : Fu g zX6_notes 0 0 [.ref 92, iv v] σ35 l35 (fun ρ l' => l' = l35 ∧ PSm σ N st (d2, e) ρ ∧ ∀ a, a ≠ 94 → ρ a = σ35 a))) rfl (by decide) rfl oY_X6_notes oI_X6_notes lk_X6_270 rfl dX6_readsTune_43 (by omega) (by omega) rfl (Or.inl rfl) (fun σ43 l43 h43 => ?_)
          have el43 := h43.1
          subst el43
          have K1 := h43.2
          refine g_iconst dX6_readsTune_46 ?_
          refine g_istore2 dX6_readsTune_47 rfl (by decide) ?_
          refine g_goto (tgt := 205) dX6_readsTune_48 rfl ?_
          refine g_goto (tgt := 6) dX6_readsTune_205 rfl ?_
          have hd2 : d2 = adS d v ∧ d 9 < 40 := by
            unfold rNote at hr2
            split at hr2
            · cases hr2
            · cases hr2; exact ⟨rfl, by omega⟩
          have hqe : q < e := by
            have e1 := hvr.2.2.2.2
            have e2 := sk_le (Q := isSp) (T := σ 105) hs.2
            have e4 := sk_ne (Q := isDg) (p := sk isSp (σ 105) N q) (sgn_lt (fun z => by have h9 := hvr.2.2.1; rw [z] at h9; exact absurd h9 (by decide))) (by
              have h9 := hvr.2.2.1
              rw [sgn_at (sgn_lt (fun z => by rw [z] at h9; exact absurd h9 (by decide)))] at h9
              exact h9)
            omega
          have hoA : SOK 0 d2 := by rw [hd2.1]; exact ho.ad hd2.2 ⟨by omega, by omega⟩
          have hrp : rPart (σ 105) N d q o b c = .inr ((d2, e), o, b) := by unfold rPart; rw [if_neg (by omega), if_neg (by omega), if_pos cd]; simp only [hr1, hr2]
          rw [hrp]
          exact ih d2 e o b (decide (c = 40)) _ _ _ _ K1.1 hoA ho4 (fun j hj => by
            have h9 := hbe j hj
            rw [K1.2 106 (by decide), h35.2.2.2 106 (by decide)]
            refine ⟨h9.1, h9.2.1, ?_⟩
            rw [hd2.1, adS_9]
            omega) (by omega) (by rw [if_neg (by rw [decide_eq_true_eq]; omega)])
    · rw [bvF cd] at hdg
      by_cases cl : isLt c = true
      · rw [bvT cl] at hlt
        have hpt : isPt c = true := by unfold isPt; rw [cl, Bool.or_true]; rfl
        have c97 : 97 ≤ c ∧ c ≤ 122 := of_decide_eq_true cl
        rw [if_neg (fun z => by rw [hpt] at z; cases z.1), if_neg (fun z => by rw [hpt] at z; cases z.1)]
        obtain ⟨q2, hq2⟩ : ∃ q2, q2 = sk isSp (σ 105) N q := ⟨_, rfl⟩
        obtain ⟨e2, he2⟩ : ∃ e2, e2 = sk isLt (σ 105) N q2 := ⟨_, rfl⟩
        have hq3 := sk_le (Q := isSp) (T := σ 105) hs.2
        rw [← hq2] at hq3
        have he3 := sk_le (Q := isLt) (T := σ 105) hq3.2
        rw [← he2] at he3
        have hqq : q2 = q := by
          rw [hq2, sk_e (fun z => by
            have h9 := of_decide_eq_true z.2
            rw [hcT (by omega)] at h9
            omega)]
        have heq : q < e2 := by
          rw [he2, hqq]
          exact sk_ne (hqN (by omega)) (by rw [hcT (by omega)]; exact cl)
        have hwd := word_m (g := g) (l := l) hT (hK.ln hln) hK.tx hK.2.2.2.2.1 hs.2
        rw [← hq2, ← he2] at hwd
        have hW := hK.word (q := q2) (e := e2) he3.2
        obtain ⟨ω, hω⟩ : ∃ ω : sT, ω = up (up ρ 92 17 (q2 : Int)) 92 16 (e2 : Int) := ⟨_, rfl⟩
        rw [← hω] at hwd hW
        have hwf : ω 92 17 = (q2 : Int) := by rw [hω, up_ne (fun z => by omega), up_eq]
        have hw6 : ω 106 = ρ 106 := by rw [hω, up_n (by decide), up_n (by decide)]
        have hwas := was_m (g := g) (l := l) hT hW.tx hW.2.2.2.2.1 hwf he3 (i := 5) (by decide)
        have hrp0 : rPart (σ 105) N d q o b c = if isWB (σ 105) q2 e2 5 = true then (match rNote d q2 (-1) with
          | .inl x => .inl x
          | .inr d2 => .inr ((d2, e2), o, b)) else .inl (1, q2) := by unfold rPart; rw [if_neg (by omega), if_neg (by omega), if_neg cd, he2, hq2]; rfl
        by_cases cw : isWB (σ 105) q2 e2 5 = true
        · rw [bvT cw] at hwas
          rw [if_pos cw] at hrp0
          rcases hr2 : rNote d q2 (-1) with e4 | d2
          · refine g_iload3 dX6_readsTune_6 ?_
            refine g_if_eq ⟨by decide, by decide⟩ (tgt := 208) dX6_readsTune_7 rfl (fun h7 => absurd h7 (by decide)) (fun h7 => ?_)
            refine g_aload0 dX6_readsTune_10 ?_
            refine f_cV0w (hfy) rfl (by decide) rfl oY_X6_isFine oI_X6_isFine lk_X6_230 rfl dX6_readsTune_11 rfl (Or.inl rfl) ?_
            refine g_if_eq ⟨by decide, by decide⟩ (tgt := 208) dX6_readsTune_14 rfl (fun h14 => absurd h14 (by decide)) (fun h14 => ?_)
            refine g_aload0 dX6_readsTune_17 ?_
            refine f_cV0x (hlook) rfl (by decide) rfl oY_X6_looks oI_X6_looks lk_X6_216 rfl dX6_readsTune_18 rfl (Or.inl rfl) ?_
            refine g_istore4 dX6_readsTune_21 rfl (by decide) ?_
            refine g_iload4 dX6_readsTune_23 ?_
            refine f_cS1w (hdg) oY_X6_isDigit oT_X6_isDigit lk_X6_234 rfl dX6_readsTune_25 rfl (Or.inl rfl) ?_
            refine g_if_eq ⟨by decide, by decide⟩ (tgt := 51) dX6_readsTune_28 rfl (fun h28 => ?_) (fun h28 => absurd h28 (by decide))
            refine g_iload4 dX6_readsTune_51 ?_
            refine f_cS1w (hlt) oY_X6_isLetter oT_X6_isLetter lk_X6_219 rfl dX6_readsTune_53 rfl (Or.inl rfl) ?_
            refine g_if_eq ⟨by decide, by decide⟩ (tgt := 92) dX6_readsTune_56 rfl (fun h56 => absurd h56 (by decide)) (fun h56 => ?_)
            refine g_aload0 dX6_readsTune_59 ?_
            refine f_cV0d (hwd) rfl (by decide) rfl oY_X6_word oI_X6_word lk_X6_241 rfl dX6_readsTune_60 rfl (Or.inl rfl) ?_
            refine g_aload0 dX6_readsTune_63 ?_
            refine g_ldcwS ks_X6_273 dX6_readsTune_64 ?_
            refine f_cV1w (hwas) rfl (by decide) rfl oY_X6_was oI_X6_was lk_X6_246 rfl dX6_readsTune_67 rfl (Or.inl rfl) ?_
            refine g_if_ne ⟨by decide, by decide⟩ (tgt := 82) dX6_readsTune_70 rfl (fun h70 => ?_) (fun h70 => absurd h70 (by decide))
            refine g_aload0 dX6_readsTune_82 ?_
            refine g_iconst dX6_readsTune_83 ?_
            refine f_cV1m ((Fn.mono (notes_m hW ho hwf) (fun o ρ l' k => ⟨k.2.1, k.1, by have k2 := k.2.2; rw [hr2] at k2; exact k2⟩) : Fu g zX6_notes 0 0 [.ref 92, iv (-1)] ω l (fun ρ l' => l' = l ∧ PFm σ st e4 ρ))) rfl (by decide) rfl oY_X6_notes oI_X6_notes lk_X6_270 rfl dX6_readsTune_84 (by omega) (by omega) rfl (Or.inl rfl) (fun σ84 l84 h84 => ?_)
            have el84 := h84.1
            subst el84
            have K1 := h84.2
            refine g_iconst dX6_readsTune_87 ?_
            refine g_istore2 dX6_readsTune_88 rfl (by decide) ?_
            refine g_goto (tgt := 205) dX6_readsTune_89 rfl ?_
            refine g_goto (tgt := 6) dX6_readsTune_205 rfl ?_
            rw [hr2] at hrp0
            rw [hrp0]
            exact tuneM_F K1 rfl (Or.inr rfl)
          · refine g_iload3 dX6_readsTune_6 ?_
            refine g_if_eq ⟨by decide, by decide⟩ (tgt := 208) dX6_readsTune_7 rfl (fun h7 => absurd h7 (by decide)) (fun h7 => ?_)
            refine g_aload0 dX6_readsTune_10 ?_
            refine f_cV0w (hfy) rfl (by decide) rfl oY_X6_isFine oI_X6_isFine lk_X6_230 rfl dX6_readsTune_11 rfl (Or.inl rfl) ?_
            refine g_if_eq ⟨by decide, by decide⟩ (tgt := 208) dX6_readsTune_14 rfl (fun h14 => absurd h14 (by decide)) (fun h14 => ?_)
            refine g_aload0 dX6_readsTune_17 ?_
            refine f_cV0x (hlook) rfl (by decide) rfl oY_X6_looks oI_X6_looks lk_X6_216 rfl dX6_readsTune_18 rfl (Or.inl rfl) ?_
            refine g_istore4 dX6_readsTune_21 rfl (by decide) ?_
            refine g_iload4 dX6_readsTune_23 ?_
            refine f_cS1w (hdg) oY_X6_isDigit oT_X6_isDigit lk_X6_234 rfl dX6_readsTune_25 rfl (Or.inl rfl) ?_
            refine g_if_eq ⟨by decide, by decide⟩ (tgt := 51) dX6_readsTune_28 rfl (fun h28 => ?_) (fun h28 => absurd h28 (by decide))
            refine g_iload4 dX6_readsTune_51 ?_
            refine f_cS1w (hlt) oY_X6_isLetter oT_X6_isLetter lk_X6_219 rfl dX6_readsTune_53 rfl (Or.inl rfl) ?_
            refine g_if_eq ⟨by decide, by decide⟩ (tgt := 92) dX6_readsTune_56 rfl (fun h56 => absurd h56 (by decide)) (fun h56 => ?_)
            refine g_aload0 dX6_readsTune_59 ?_
            refine f_cV0d (hwd) rfl (by decide) rfl oY_X6_word oI_X6_word lk_X6_241 rfl dX6_readsTune_60 rfl (Or.inl rfl) ?_
            refine g_aload0 dX6_readsTune_63 ?_
            refine g_ldcwS ks_X6_273 dX6_readsTune_64 ?_
            refine f_cV1w (hwas) rfl (by decide) rfl oY_X6_was oI_X6_was lk_X6_246 rfl dX6_readsTune_67 rfl (Or.inl rfl) ?_
            refine g_if_ne ⟨by decide, by decide⟩ (tgt := 82) dX6_readsTune_70 rfl (fun h70 => ?_) (fun h70 => absurd h70 (by decide))
            refine g_aload0 dX6_readsTune_82 ?_
            refine g_iconst dX6_readsTune_83 ?_
            refine f_cV1m ((Fn.mono (notes_m hW ho hwf) (fun o ρ l' k => ⟨k.2.1, k.1, by have k2 := k.2.2; rw [hr2] at k2; exact k2⟩) : Fu g zX6_notes 0 0 [.ref 92, iv (-1)] ω l (fun ρ l' => l' = l ∧ PSm σ N st (d2, e2) ρ ∧ ∀ a, a ≠ 94 → ρ a = ω a))) rfl (by decide) rfl oY_X6_notes oI_X6_notes lk_X6_270 rfl dX6_readsTune_84 (by omega) (by omega) rfl (Or.inl rfl) (fun σ84 l84 h84 => ?_)
            have el84 := h84.1
            subst el84
            have K1 := h84.2
            refine g_iconst dX6_readsTune_87 ?_
            refine g_istore2 dX6_readsTune_88 rfl (by decide) ?_
            refine g_goto (tgt := 205) dX6_readsTune_89 rfl ?_
            refine g_goto (tgt := 6) dX6_readsTune_205 rfl ?_
            have hd2 : d2 = adS d (-1) ∧ d 9 < 40 := by
              unfold rNote at hr2
              split at hr2
              · cases hr2
              · cases hr2; exact ⟨rfl, by omega⟩
            have hoA : SOK 0 d2 := by rw [hd2.1]; exact ho.ad hd2.2 ⟨by decide, by decide⟩
            rw [hr2] at hrp0
            rw [hrp0]
            exact ih d2 e2 o b (decide (c = 40)) _ _ _ _ K1.1 hoA ho4 (fun j hj => by
              have h9 := hbe j hj
              rw [K1.2 106 (by decide), hw6]
              refine ⟨h9.1, h9.2.1, ?_⟩
              rw [hd2.1, adS_9]
              omega) (by omega) (by rw [if_neg (by rw [decide_eq_true_eq]; omega)])
        · rw [bvF cw] at hwas
          rw [if_neg cw] at hrp0
          rw [hrp0]
          have F1 := hW.fail (k := 1) (pl := q2) ⟨by decide, by decide⟩
          refine g_iload3 dX6_readsTune_6 ?_
          refine g_if_eq ⟨by decide, by decide⟩ (tgt := 208) dX6_readsTune_7 rfl (fun h7 => absurd h7 (by decide)) (fun h7 => ?_)
          refine g_aload0 dX6_readsTune_10 ?_
          refine f_cV0w (hfy) rfl (by decide) rfl oY_X6_isFine oI_X6_isFine lk_X6_230 rfl dX6_readsTune_11 rfl (Or.inl rfl) ?_
          refine g_if_eq ⟨by decide, by decide⟩ (tgt := 208) dX6_readsTune_14 rfl (fun h14 => absurd h14 (by decide)) (fun h14 => ?_)
          refine g_aload0 dX6_readsTune_17 ?_
          refine f_cV0x (hlook) rfl (by decide) rfl oY_X6_looks oI_X6_looks lk_X6_216 rfl dX6_readsTune_18 rfl (Or.inl rfl) ?_
          refine g_istore4 dX6_readsTune_21 rfl (by decide) ?_
          refine g_iload4 dX6_readsTune_23 ?_
          refine f_cS1w (hdg) oY_X6_isDigit oT_X6_isDigit lk_X6_234 rfl dX6_readsTune_25 rfl (Or.inl rfl) ?_
          refine g_if_eq ⟨by decide, by decide⟩ (tgt := 51) dX6_readsTune_28 rfl (fun h28 => ?_) (fun h28 => absurd h28 (by decide))
          refine g_iload4 dX6_readsTune_51 ?_
          refine f_cS1w (hlt) oY_X6_isLetter oT_X6_isLetter lk_X6_219 rfl dX6_readsTune_53 rfl (Or.inl rfl) ?_
          refine g_if_eq ⟨by decide, by decide⟩ (tgt := 92) dX6_readsTune_56 rfl (fun h56 => absurd h56 (by decide)) (fun h56 => ?_)
          refine g_aload0 dX6_readsTune_59 ?_
          refine f_cV0d (hwd) rfl (by decide) rfl oY_X6_word oI_X6_word lk_X6_241 rfl dX6_readsTune_60 rfl (Or.inl rfl) ?_
          refine g_aload0 dX6_readsTune_63 ?_
          refine g_ldcwS ks_X6_273 dX6_readsTune_64 ?_
          refine f_cV1w (hwas) rfl (by decide) rfl oY_X6_was oI_X6_was lk_X6_246 rfl dX6_readsTune_67 rfl (Or.inl rfl) ?_
          refine g_if_ne ⟨by decide, by decide⟩ (tgt := 82) dX6_readsTune_70 rfl (fun h70 => absurd h70 (by decide)) (fun h70 => ?_)
          refine g_aload0 dX6_readsTune_73 ?_
          refine g_iconst dX6_readsTune_74 ?_
          refine g_aload0 dX6_readsTune_75 ?_
          refine f_geti (J := 17) rfl (by decide) rfl rfl fl_X6_205 dX6_readsTune_76 ?_
          rw [hwf]
          refine f_cV2d (fails_0 hW.2.1) rfl (by decide) rfl oY_X6_fails oI_X6_fails lk_X6_237 rfl dX6_readsTune_79 rfl (Or.inl rfl) ?_
          refine g_aload0 dX6_readsTune_82 ?_
          refine g_iconst dX6_readsTune_83 ?_
          refine f_cV1d (notes_f F1) rfl (by decide) rfl oY_X6_notes oI_X6_notes lk_X6_270 rfl dX6_readsTune_84 rfl (Or.inl rfl) ?_
          refine g_iconst dX6_readsTune_87 ?_
          refine g_istore2 dX6_readsTune_88 rfl (by decide) ?_
          refine g_goto (tgt := 205) dX6_readsTune_89 rfl ?_
          refine g_goto (tgt := 6) dX6_readsTune_205 rfl ?_
          exact tuneM_F F1 rfl (Or.inr rfl)
      · rw [bvF cl] at hlt
        by_cases c40 : c = 40
        · have hpt : isPt c = true := by rw [c40]; rfl
          rw [if_neg (fun z => by rw [hpt] at z; cases z.1), if_neg (fun z => by rw [hpt] at z; cases z.1)]
          have hrp0 : rPart (σ 105) N d q o b c = rOpen d q o b := by unfold rPart; rw [if_pos c40]
          rw [hrp0]
          by_cases c4 : o = 4
          · refine g_iload3 dX6_readsTune_6 ?_
            refine g_if_eq ⟨by decide, by decide⟩ (tgt := 208) dX6_readsTune_7 rfl (fun h7 => absurd h7 (by decide)) (fun h7 => ?_)
            refine g_aload0 dX6_readsTune_10 ?_
            refine f_cV0w (hfy) rfl (by decide) rfl oY_X6_isFine oI_X6_isFine lk_X6_230 rfl dX6_readsTune_11 rfl (Or.inl rfl) ?_
            refine g_if_eq ⟨by decide, by decide⟩ (tgt := 208) dX6_readsTune_14 rfl (fun h14 => absurd h14 (by decide)) (fun h14 => ?_)
            refine g_aload0 dX6_readsTune_17 ?_
            refine f_cV0x (hlook) rfl (by decide) rfl oY_X6_looks oI_X6_looks lk_X6_216 rfl dX6_readsTune_18 rfl (Or.inl rfl) ?_
            refine g_istore4 dX6_readsTune_21 rfl (by decide) ?_
            refine g_iload4 dX6_readsTune_23 ?_
            refine f_cS1w (hdg) oY_X6_isDigit oT_X6_isDigit lk_X6_234 rfl dX6_readsTune_25 rfl (Or.inl rfl) ?_
            refine g_if_eq ⟨by decide, by decide⟩ (tgt := 51) dX6_readsTune_28 rfl (fun h28 => ?_) (fun h28 => absurd h28 (by decide))
            refine g_iload4 dX6_readsTune_51 ?_
            refine f_cS1w (hlt) oY_X6_isLetter oT_X6_isLetter lk_X6_219 rfl dX6_readsTune_53 rfl (Or.inl rfl) ?_
            refine g_if_eq ⟨by decide, by decide⟩ (tgt := 92) dX6_readsTune_56 rfl (fun h56 => ?_) (fun h56 => absurd h56 (by decide))
            refine g_iload4 dX6_readsTune_92 ?_
            refine g_bipush dX6_readsTune_94 (by decide) ?_
            refine g_icmp_ne ⟨by omega, by omega⟩ ⟨by omega, by omega⟩ (tgt := 145) dX6_readsTune_96 rfl (fun h96 => absurd h96 (by omega)) (fun h96 => ?_)
            refine g_iload1 dX6_readsTune_99 ?_
            refine g_iconst dX6_readsTune_100 ?_
            refine g_icmp_ne ⟨by omega, by omega⟩ ⟨by omega, by omega⟩ (tgt := 114) dX6_readsTune_101 rfl (fun h101 => absurd h101 (by omega)) (fun h101 => ?_)
            refine g_aload0 dX6_readsTune_104 ?_
            refine g_iconst dX6_readsTune_105 ?_
            refine g_aload0 dX6_readsTune_106 ?_
            refine f_geti (J := 17) rfl (by decide) rfl rfl fl_X6_205 dX6_readsTune_107 ?_
            rw [hfr]
            refine f_cV2d (fails_0 hK.2.1) rfl (by decide) rfl oY_X6_fails oI_X6_fails lk_X6_237 rfl dX6_readsTune_110 rfl (Or.inl rfl) ?_
            refine g_return rfl dX6_readsTune_113 ?_
            exact Rv.no (e := (3, q)) (by unfold rOpen; rw [if_pos (by omega)]) (Or.inl (hK.fail ⟨by decide, by decide⟩))
          · refine g_iload3 dX6_readsTune_6 ?_
            refine g_if_eq ⟨by decide, by decide⟩ (tgt := 208) dX6_readsTune_7 rfl (fun h7 => absurd h7 (by decide)) (fun h7 => ?_)
            refine g_aload0 dX6_readsTune_10 ?_
            refine f_cV0w (hfy) rfl (by decide) rfl oY_X6_isFine oI_X6_isFine lk_X6_230 rfl dX6_readsTune_11 rfl (Or.inl rfl) ?_
            refine g_if_eq ⟨by decide, by decide⟩ (tgt := 208) dX6_readsTune_14 rfl (fun h14 => absurd h14 (by decide)) (fun h14 => ?_)
            refine g_aload0 dX6_readsTune_17 ?_
            refine f_cV0x (hlook) rfl (by decide) rfl oY_X6_looks oI_X6_looks lk_X6_216 rfl dX6_readsTune_18 rfl (Or.inl rfl) ?_
            refine g_istore4 dX6_readsTune_21 rfl (by decide) ?_
            refine g_iload4 dX6_readsTune_23 ?_
            refine f_cS1w (hdg) oY_X6_isDigit oT_X6_isDigit lk_X6_234 rfl dX6_readsTune_25 rfl (Or.inl rfl) ?_
            refine g_if_eq ⟨by decide, by decide⟩ (tgt := 51) dX6_readsTune_28 rfl (fun h28 => ?_) (fun h28 => absurd h28 (by decide))
            refine g_iload4 dX6_readsTune_51 ?_
            refine f_cS1w (hlt) oY_X6_isLetter oT_X6_isLetter lk_X6_219 rfl dX6_readsTune_53 rfl (Or.inl rfl) ?_
            refine g_if_eq ⟨by decide, by decide⟩ (tgt := 92) dX6_readsTune_56 rfl (fun h56 => ?_) (fun h56 => absurd h56 (by decide))
            refine g_iload4 dX6_readsTune_92 ?_
            refine g_bipush dX6_readsTune_94 (by decide) ?_
            refine g_icmp_ne ⟨by omega, by omega⟩ ⟨by omega, by omega⟩ (tgt := 145) dX6_readsTune_96 rfl (fun h96 => absurd h96 (by omega)) (fun h96 => ?_)
            refine g_iload1 dX6_readsTune_99 ?_
            refine g_iconst dX6_readsTune_100 ?_
            refine g_icmp_ne ⟨by omega, by omega⟩ ⟨by omega, by omega⟩ (tgt := 114) dX6_readsTune_101 rfl (fun h101 => ?_) (fun h101 => absurd h101 (by omega))
            refine g_aload0 dX6_readsTune_114 ?_
            refine f_getr (r := 106) rfl (by decide) rfl rfl fl_X6_56 dX6_readsTune_115 ?_
            refine g_iload1 dX6_readsTune_118 ?_
            refine g_aload0 dX6_readsTune_119 ?_
            refine f_getr (r := 94) rfl (by decide) rfl rfl fl_X6_13 dX6_readsTune_120 ?_
            refine g_bipush dX6_readsTune_123 (by decide) ?_
            refine f_iald rfl (by decide) ⟨by omega, by show _ < ((67 : Nat) : Int); omega⟩ dX6_readsTune_125 ?_
            rw [hK.d (k := 9) (by decide) (by decide)]
            refine f_iast rfl (by decide) ⟨by omega, by show _ < ((4 : Nat) : Int); omega⟩ dX6_readsTune_126 ?_
            refine g_iinc1 dX6_readsTune_127 rfl (by decide) ?_
            refine g_aload0 dX6_readsTune_130 ?_
            refine g_dup rfl dX6_readsTune_131 ?_
            refine f_geti (J := 16) rfl (by decide) rfl rfl fl_X6_199 dX6_readsTune_132 ?_
            rw [up_n (by decide), hK.2.2.2.2.1]
            refine g_iconst dX6_readsTune_135 ?_
            refine g_iadd dX6_readsTune_136 ?_
            refine f_puti (J := 16) rfl (by decide) rfl rfl fl_X6_199 rfl (fun _ _ _ h => by cases h; rfl) dX6_readsTune_137 ?_
            refine g_iconst dX6_readsTune_140 ?_
            refine g_istore2 dX6_readsTune_141 rfl (by decide) ?_
            refine g_goto (tgt := 205) dX6_readsTune_142 rfl ?_
            refine g_goto (tgt := 6) dX6_readsTune_205 rfl ?_
            have hro : rOpen d q o b = .inr ((d, q + 1), o + 1, opB d o b) := by unfold rOpen; rw [if_neg (by omega)]
            rw [hro]
            have hq1 := hqN (by omega)
            exact ih d (q + 1) (o + 1) (opB d o b) (decide (c = 40)) _ _ _ _ ((hK.beg (j := (o : Int)) (v := d 9)).at1 (by omega)) ho (by omega) (fun j hj => by
              rw [up_n (by decide)]
              unfold opB
              by_cases e : j = o
              · rw [e, up_eq, if_pos rfl]; exact ⟨rfl, o9.1, Int.le_refl _⟩
              · rw [up_ne (fun z => by omega), if_neg e]; exact hbe j (by omega)) (by omega) (by rw [if_pos (decide_eq_true c40)])
        · have hpt : isPt c = false := by
            unfold isPt
            rw [Bool.eq_false_iff.mpr cd, Bool.eq_false_iff.mpr cl, decide_eq_false c40]
            rfl
          by_cases cm : m = true
          · rw [if_pos ⟨hpt, cm⟩]
            rw [if_pos cm] at hnm
            refine g_iload3 dX6_readsTune_6 ?_
            refine g_if_eq ⟨by decide, by decide⟩ (tgt := 208) dX6_readsTune_7 rfl (fun h7 => absurd h7 (by decide)) (fun h7 => ?_)
            refine g_aload0 dX6_readsTune_10 ?_
            refine f_cV0w (hfy) rfl (by decide) rfl oY_X6_isFine oI_X6_isFine lk_X6_230 rfl dX6_readsTune_11 rfl (Or.inl rfl) ?_
            refine g_if_eq ⟨by decide, by decide⟩ (tgt := 208) dX6_readsTune_14 rfl (fun h14 => absurd h14 (by decide)) (fun h14 => ?_)
            refine g_aload0 dX6_readsTune_17 ?_
            refine f_cV0x (hlook) rfl (by decide) rfl oY_X6_looks oI_X6_looks lk_X6_216 rfl dX6_readsTune_18 rfl (Or.inl rfl) ?_
            refine g_istore4 dX6_readsTune_21 rfl (by decide) ?_
            refine g_iload4 dX6_readsTune_23 ?_
            refine f_cS1w (hdg) oY_X6_isDigit oT_X6_isDigit lk_X6_234 rfl dX6_readsTune_25 rfl (Or.inl rfl) ?_
            refine g_if_eq ⟨by decide, by decide⟩ (tgt := 51) dX6_readsTune_28 rfl (fun h28 => ?_) (fun h28 => absurd h28 (by decide))
            refine g_iload4 dX6_readsTune_51 ?_
            refine f_cS1w (hlt) oY_X6_isLetter oT_X6_isLetter lk_X6_219 rfl dX6_readsTune_53 rfl (Or.inl rfl) ?_
            refine g_if_eq ⟨by decide, by decide⟩ (tgt := 92) dX6_readsTune_56 rfl (fun h56 => ?_) (fun h56 => absurd h56 (by decide))
            refine g_iload4 dX6_readsTune_92 ?_
            refine g_bipush dX6_readsTune_94 (by decide) ?_
            refine g_icmp_ne ⟨by omega, by omega⟩ ⟨by omega, by omega⟩ (tgt := 145) dX6_readsTune_96 rfl (fun h96 => ?_) (fun h96 => absurd h96 (by omega))
            refine g_iload4 dX6_readsTune_145 ?_
            refine g_bipush dX6_readsTune_147 (by decide) ?_
            refine g_icmp_ne ⟨by omega, by omega⟩ ⟨by omega, by omega⟩ (tgt := 186) dX6_readsTune_149 rfl (fun h149 => ?_) (fun h149 => ?_)
            · refine g_iload2 dX6_readsTune_186 ?_
              refine g_if_ne ⟨by omega, by omega⟩ (tgt := 194) dX6_readsTune_187 rfl (fun h187 => ?_) (fun h187 => absurd h187 (by omega))
              refine g_aload0 dX6_readsTune_194 ?_
              refine g_iconst dX6_readsTune_195 ?_
              refine g_aload0 dX6_readsTune_196 ?_
              refine f_geti (J := 17) rfl (by decide) rfl rfl fl_X6_205 dX6_readsTune_197 ?_
              rw [hfr]
              refine f_cV2d (fails_0 hK.2.1) rfl (by decide) rfl oY_X6_fails oI_X6_fails lk_X6_237 rfl dX6_readsTune_200 rfl (Or.inl rfl) ?_
              refine g_iconst dX6_readsTune_203 ?_
              refine g_istore3 dX6_readsTune_204 rfl (by decide) ?_
              refine g_goto (tgt := 6) dX6_readsTune_205 rfl ?_
              exact tuneM_F (hK.fail (k := 1) (pl := q) ⟨by decide, by decide⟩) rfl (Or.inl rfl)
            · refine g_iload1 dX6_readsTune_152 ?_
              refine g_if_le ⟨by omega, by omega⟩ (tgt := 186) dX6_readsTune_153 rfl (fun h153 => ?_) (fun h153 => ?_)
              · refine g_iload2 dX6_readsTune_186 ?_
                refine g_if_ne ⟨by omega, by omega⟩ (tgt := 194) dX6_readsTune_187 rfl (fun h187 => ?_) (fun h187 => absurd h187 (by omega))
                refine g_aload0 dX6_readsTune_194 ?_
                refine g_iconst dX6_readsTune_195 ?_
                refine g_aload0 dX6_readsTune_196 ?_
                refine f_geti (J := 17) rfl (by decide) rfl rfl fl_X6_205 dX6_readsTune_197 ?_
                rw [hfr]
                refine f_cV2d (fails_0 hK.2.1) rfl (by decide) rfl oY_X6_fails oI_X6_fails lk_X6_237 rfl dX6_readsTune_200 rfl (Or.inl rfl) ?_
                refine g_iconst dX6_readsTune_203 ?_
                refine g_istore3 dX6_readsTune_204 rfl (by decide) ?_
                refine g_goto (tgt := 6) dX6_readsTune_205 rfl ?_
                exact tuneM_F (hK.fail (k := 1) (pl := q) ⟨by decide, by decide⟩) rfl (Or.inl rfl)
              · refine g_iload2 dX6_readsTune_156 ?_
                refine g_if_ne ⟨by omega, by omega⟩ (tgt := 186) dX6_readsTune_157 rfl (fun h157 => ?_) (fun h157 => absurd h157 (by omega))
                refine g_iload2 dX6_readsTune_186 ?_
                refine g_if_ne ⟨by omega, by omega⟩ (tgt := 194) dX6_readsTune_187 rfl (fun h187 => ?_) (fun h187 => absurd h187 (by omega))
                refine g_aload0 dX6_readsTune_194 ?_
                refine g_iconst dX6_readsTune_195 ?_
                refine g_aload0 dX6_readsTune_196 ?_
                refine f_geti (J := 17) rfl (by decide) rfl rfl fl_X6_205 dX6_readsTune_197 ?_
                rw [hfr]
                refine f_cV2d (fails_0 hK.2.1) rfl (by decide) rfl oY_X6_fails oI_X6_fails lk_X6_237 rfl dX6_readsTune_200 rfl (Or.inl rfl) ?_
                refine g_iconst dX6_readsTune_203 ?_
                refine g_istore3 dX6_readsTune_204 rfl (by decide) ?_
                refine g_goto (tgt := 6) dX6_readsTune_205 rfl ?_
                exact tuneM_F (hK.fail (k := 1) (pl := q) ⟨by decide, by decide⟩) rfl (Or.inl rfl)
          · rw [if_neg (fun z => cm z.2)]
            rw [if_neg cm] at hnm
            by_cases c41 : c = 41
            · rw [if_neg (fun z => z.2 c41)]
              have hrp0 : rPart (σ 105) N d q o b c = rClose (σ 105) N d q o b := by unfold rPart; rw [if_neg c40, if_pos c41]
              rw [hrp0]
              have hq1 := hqN (by omega)
              by_cases c0 : o = 0
              · refine g_iload3 dX6_readsTune_6 ?_
                refine g_if_eq ⟨by decide, by decide⟩ (tgt := 208) dX6_readsTune_7 rfl (fun h7 => absurd h7 (by decide)) (fun h7 => ?_)
                refine g_aload0 dX6_readsTune_10 ?_
                refine f_cV0w (hfy) rfl (by decide) rfl oY_X6_isFine oI_X6_isFine lk_X6_230 rfl dX6_readsTune_11 rfl (Or.inl rfl) ?_
                refine g_if_eq ⟨by decide, by decide⟩ (tgt := 208) dX6_readsTune_14 rfl (fun h14 => absurd h14 (by decide)) (fun h14 => ?_)
                refine g_aload0 dX6_readsTune_17 ?_
                refine f_cV0x (hlook) rfl (by decide) rfl oY_X6_looks oI_X6_looks lk_X6_216 rfl dX6_readsTune_18 rfl (Or.inl rfl) ?_
                refine g_istore4 dX6_readsTune_21 rfl (by decide) ?_
                refine g_iload4 dX6_readsTune_23 ?_
                refine f_cS1w (hdg) oY_X6_isDigit oT_X6_isDigit lk_X6_234 rfl dX6_readsTune_25 rfl (Or.inl rfl) ?_
                refine g_if_eq ⟨by decide, by decide⟩ (tgt := 51) dX6_readsTune_28 rfl (fun h28 => ?_) (fun h28 => absurd h28 (by decide))
                refine g_iload4 dX6_readsTune_51 ?_
                refine f_cS1w (hlt) oY_X6_isLetter oT_X6_isLetter lk_X6_219 rfl dX6_readsTune_53 rfl (Or.inl rfl) ?_
                refine g_if_eq ⟨by decide, by decide⟩ (tgt := 92) dX6_readsTune_56 rfl (fun h56 => ?_) (fun h56 => absurd h56 (by decide))
                refine g_iload4 dX6_readsTune_92 ?_
                refine g_bipush dX6_readsTune_94 (by decide) ?_
                refine g_icmp_ne ⟨by omega, by omega⟩ ⟨by omega, by omega⟩ (tgt := 145) dX6_readsTune_96 rfl (fun h96 => ?_) (fun h96 => absurd h96 (by omega))
                refine g_iload4 dX6_readsTune_145 ?_
                refine g_bipush dX6_readsTune_147 (by decide) ?_
                refine g_icmp_ne ⟨by omega, by omega⟩ ⟨by omega, by omega⟩ (tgt := 186) dX6_readsTune_149 rfl (fun h149 => absurd h149 (by omega)) (fun h149 => ?_)
                refine g_iload1 dX6_readsTune_152 ?_
                refine g_if_le ⟨by omega, by omega⟩ (tgt := 186) dX6_readsTune_153 rfl (fun h153 => ?_) (fun h153 => absurd h153 (by omega))
                refine g_iload2 dX6_readsTune_186 ?_
                refine g_if_ne ⟨by omega, by omega⟩ (tgt := 194) dX6_readsTune_187 rfl (fun h187 => absurd h187 (by omega)) (fun h187 => ?_)
                refine g_iload1 dX6_readsTune_190 ?_
                refine g_if_le ⟨by omega, by omega⟩ (tgt := 203) dX6_readsTune_191 rfl (fun h191 => ?_) (fun h191 => absurd h191 (by omega))
                refine g_iconst dX6_readsTune_203 ?_
                refine g_istore3 dX6_readsTune_204 rfl (by decide) ?_
                refine g_goto (tgt := 6) dX6_readsTune_205 rfl ?_
                have hrc : rClose (σ 105) N d q o b = .inl (1, q) := by unfold rClose; rw [if_pos c0]
                rw [hrc]
                exact tuneM_G (Rv.no rfl (Or.inr ⟨rfl, hq1, by rw [hcT (by omega)]; exact c41, d, hK⟩))
              · have hbo := hbe (o - 1) (by omega)
                rw [rClose_r c0]
                have hK1 := hK.at1 (by omega)
                have hrm := repeats_m (g := g) (l := l) hT hln hK1 ho (b := b (o - 1)) ⟨hbo.2.1, hbo.2.2⟩
                rcases hrr : rRep (σ 105) N d (b (o - 1)) (q + 1) with e | ⟨d2, e⟩
                · refine g_iload3 dX6_readsTune_6 ?_
                  refine g_if_eq ⟨by decide, by decide⟩ (tgt := 208) dX6_readsTune_7 rfl (fun h7 => absurd h7 (by decide)) (fun h7 => ?_)
                  refine g_aload0 dX6_readsTune_10 ?_
                  refine f_cV0w (hfy) rfl (by decide) rfl oY_X6_isFine oI_X6_isFine lk_X6_230 rfl dX6_readsTune_11 rfl (Or.inl rfl) ?_
                  refine g_if_eq ⟨by decide, by decide⟩ (tgt := 208) dX6_readsTune_14 rfl (fun h14 => absurd h14 (by decide)) (fun h14 => ?_)
                  refine g_aload0 dX6_readsTune_17 ?_
                  refine f_cV0x (hlook) rfl (by decide) rfl oY_X6_looks oI_X6_looks lk_X6_216 rfl dX6_readsTune_18 rfl (Or.inl rfl) ?_
                  refine g_istore4 dX6_readsTune_21 rfl (by decide) ?_
                  refine g_iload4 dX6_readsTune_23 ?_
                  refine f_cS1w (hdg) oY_X6_isDigit oT_X6_isDigit lk_X6_234 rfl dX6_readsTune_25 rfl (Or.inl rfl) ?_
                  refine g_if_eq ⟨by decide, by decide⟩ (tgt := 51) dX6_readsTune_28 rfl (fun h28 => ?_) (fun h28 => absurd h28 (by decide))
                  refine g_iload4 dX6_readsTune_51 ?_
                  refine f_cS1w (hlt) oY_X6_isLetter oT_X6_isLetter lk_X6_219 rfl dX6_readsTune_53 rfl (Or.inl rfl) ?_
                  refine g_if_eq ⟨by decide, by decide⟩ (tgt := 92) dX6_readsTune_56 rfl (fun h56 => ?_) (fun h56 => absurd h56 (by decide))
                  refine g_iload4 dX6_readsTune_92 ?_
                  refine g_bipush dX6_readsTune_94 (by decide) ?_
                  refine g_icmp_ne ⟨by omega, by omega⟩ ⟨by omega, by omega⟩ (tgt := 145) dX6_readsTune_96 rfl (fun h96 => ?_) (fun h96 => absurd h96 (by omega))
                  refine g_iload4 dX6_readsTune_145 ?_
                  refine g_bipush dX6_readsTune_147 (by decide) ?_
                  refine g_icmp_ne ⟨by omega, by omega⟩ ⟨by omega, by omega⟩ (tgt := 186) dX6_readsTune_149 rfl (fun h149 => absurd h149 (by omega)) (fun h149 => ?_)
                  refine g_iload1 dX6_readsTune_152 ?_
                  refine g_if_le ⟨by omega, by omega⟩ (tgt := 186) dX6_readsTune_153 rfl (fun h153 => absurd h153 (by omega)) (fun h153 => ?_)
                  refine g_iload2 dX6_readsTune_156 ?_
                  refine g_if_ne ⟨by omega, by omega⟩ (tgt := 186) dX6_readsTune_157 rfl (fun h157 => absurd h157 (by omega)) (fun h157 => ?_)
                  refine g_aload0 dX6_readsTune_160 ?_
                  refine g_dup rfl dX6_readsTune_161 ?_
                  refine f_geti (J := 16) rfl (by decide) rfl rfl fl_X6_199 dX6_readsTune_162 ?_
                  rw [hK.2.2.2.2.1]
                  refine g_iconst dX6_readsTune_165 ?_
                  refine g_iadd dX6_readsTune_166 ?_
                  refine f_puti (J := 16) rfl (by decide) rfl rfl fl_X6_199 rfl (fun _ _ _ h => by cases h; rfl) dX6_readsTune_167 ?_
                  refine g_iinc1 dX6_readsTune_170 rfl (by decide) ?_
                  refine g_aload0 dX6_readsTune_173 ?_
                  refine g_aload0 dX6_readsTune_174 ?_
                  refine f_getr (r := 106) rfl (by decide) rfl rfl fl_X6_56 dX6_readsTune_175 ?_
                  refine g_iload1 dX6_readsTune_178 ?_
                  refine f_iald rfl (by decide) ⟨by omega, by show _ < ((4 : Nat) : Int); omega⟩ dX6_readsTune_179 ?_
                  rw [up_n (by decide), show (o : Int) + -1 = ((o - 1 : Nat) : Int) from by omega, hbo.1]
                  refine f_cV1m ((Fn.mono hrm (fun o ρ l' k => ⟨k.2.1, k.1, by have k2 := k.2.2; rw [hrr] at k2; exact k2⟩) : Fu g zX6_repeats 0 0 [.ref 92, iv (b (o - 1))] (up ρ 92 16 ((q : Int) + 1)) l (fun κ l' => l' = l ∧ PFm σ st e κ))) rfl (by decide) rfl oY_X6_repeats oI_X6_repeats lk_X6_274 rfl dX6_readsTune_180 (by omega) (by omega) rfl (Or.inl rfl) (fun σ180 l180 h180 => ?_)
                  have el180 := h180.1
                  subst el180
                  have K1 := h180.2
                  refine g_goto (tgt := 205) dX6_readsTune_183 rfl ?_
                  refine g_goto (tgt := 6) dX6_readsTune_205 rfl ?_
                  exact tuneM_F K1 rfl (Or.inr rfl)
                · refine g_iload3 dX6_readsTune_6 ?_
                  refine g_if_eq ⟨by decide, by decide⟩ (tgt := 208) dX6_readsTune_7 rfl (fun h7 => absurd h7 (by decide)) (fun h7 => ?_)
                  refine g_aload0 dX6_readsTune_10 ?_
                  refine f_cV0w (hfy) rfl (by decide) rfl oY_X6_isFine oI_X6_isFine lk_X6_230 rfl dX6_readsTune_11 rfl (Or.inl rfl) ?_
                  refine g_if_eq ⟨by decide, by decide⟩ (tgt := 208) dX6_readsTune_14 rfl (fun h14 => absurd h14 (by decide)) (fun h14 => ?_)
                  refine g_aload0 dX6_readsTune_17 ?_
                  refine f_cV0x (hlook) rfl (by decide) rfl oY_X6_looks oI_X6_looks lk_X6_216 rfl dX6_readsTune_18 rfl (Or.inl rfl) ?_
                  refine g_istore4 dX6_readsTune_21 rfl (by decide) ?_
                  refine g_iload4 dX6_readsTune_23 ?_
                  refine f_cS1w (hdg) oY_X6_isDigit oT_X6_isDigit lk_X6_234 rfl dX6_readsTune_25 rfl (Or.inl rfl) ?_
                  refine g_if_eq ⟨by decide, by decide⟩ (tgt := 51) dX6_readsTune_28 rfl (fun h28 => ?_) (fun h28 => absurd h28 (by decide))
                  refine g_iload4 dX6_readsTune_51 ?_
                  refine f_cS1w (hlt) oY_X6_isLetter oT_X6_isLetter lk_X6_219 rfl dX6_readsTune_53 rfl (Or.inl rfl) ?_
                  refine g_if_eq ⟨by decide, by decide⟩ (tgt := 92) dX6_readsTune_56 rfl (fun h56 => ?_) (fun h56 => absurd h56 (by decide))
                  refine g_iload4 dX6_readsTune_92 ?_
                  refine g_bipush dX6_readsTune_94 (by decide) ?_
                  refine g_icmp_ne ⟨by omega, by omega⟩ ⟨by omega, by omega⟩ (tgt := 145) dX6_readsTune_96 rfl (fun h96 => ?_) (fun h96 => absurd h96 (by omega))
                  refine g_iload4 dX6_readsTune_145 ?_
                  refine g_bipush dX6_readsTune_147 (by decide) ?_
                  refine g_icmp_ne ⟨by omega, by omega⟩ ⟨by omega, by omega⟩ (tgt := 186) dX6_readsTune_149 rfl (fun h149 => absurd h149 (by omega)) (fun h149 => ?_)
                  refine g_iload1 dX6_readsTune_152 ?_
                  refine g_if_le ⟨by omega, by omega⟩ (tgt := 186) dX6_readsTune_153 rfl (fun h153 => absurd h153 (by omega)) (fun h153 => ?_)
                  refine g_iload2 dX6_readsTune_156 ?_
                  refine g_if_ne ⟨by omega, by omega⟩ (tgt := 186) dX6_readsTune_157 rfl (fun h157 => absurd h157 (by omega)) (fun h157 => ?_)
                  refine g_aload0 dX6_readsTune_160 ?_
                  refine g_dup rfl dX6_readsTune_161 ?_
                  refine f_geti (J := 16) rfl (by decide) rfl rfl fl_X6_199 dX6_readsTune_162 ?_
                  rw [hK.2.2.2.2.1]
                  refine g_iconst dX6_readsTune_165 ?_
                  refine g_iadd dX6_readsTune_166 ?_
                  refine f_puti (J := 16) rfl (by decide) rfl rfl fl_X6_199 rfl (fun _ _ _ h => by cases h; rfl) dX6_readsTune_167 ?_
                  refine g_iinc1 dX6_readsTune_170 rfl (by decide) ?_
                  refine g_aload0 dX6_readsTune_173 ?_
                  refine g_aload0 dX6_readsTune_174 ?_
                  refine f_getr (r := 106) rfl (by decide) rfl rfl fl_X6_56 dX6_readsTune_175 ?_
                  refine g_iload1 dX6_readsTune_178 ?_
                  refine f_iald rfl (by decide) ⟨by omega, by show _ < ((4 : Nat) : Int); omega⟩ dX6_readsTune_179 ?_
                  rw [up_n (by decide), show (o : Int) + -1 = ((o - 1 : Nat) : Int) from by omega, hbo.1]
                  refine f_cV1m ((Fn.mono hrm (fun o ρ l' k => ⟨k.2.1, k.1, by have k2 := k.2.2; rw [hrr] at k2; exact k2⟩) : Fu g zX6_repeats 0 0 [.ref 92, iv (b (o - 1))] (up ρ 92 16 ((q : Int) + 1)) l (fun κ l' => l' = l ∧ PSm σ N st (d2, e) κ ∧ κ 106 = up ρ 92 16 ((q : Int) + 1) 106))) rfl (by decide) rfl oY_X6_repeats oI_X6_repeats lk_X6_274 rfl dX6_readsTune_180 (by omega) (by omega) rfl (Or.inl rfl) (fun σ180 l180 h180 => ?_)
                  have el180 := h180.1
                  subst el180
                  have K1 := h180.2
                  refine g_goto (tgt := 205) dX6_readsTune_183 rfl ?_
                  refine g_goto (tgt := 6) dX6_readsTune_205 rfl ?_
                  have hrk := rRep_ok ho ⟨hbo.2.1, hbo.2.2⟩ hrr
                  have hqe := rRep_e (by omega) hrr
                  exact ih d2 e (o - 1) b (decide (c = 40)) _ _ _ _ K1.1 hrk.1 (by omega) (fun j hj => by
                    have h9 := hbe j (by omega)
                    rw [K1.2, up_n (by decide)]
                    exact ⟨h9.1, h9.2.1, Int.le_trans h9.2.2 hrk.2⟩) (by omega) (by rw [if_neg (by rw [decide_eq_true_eq]; omega)]; exact hnm)
            · rw [if_pos ⟨hpt, c41⟩]
              by_cases c0 : o = 0
              · rw [if_pos c0]
                refine g_iload3 dX6_readsTune_6 ?_
                refine g_if_eq ⟨by decide, by decide⟩ (tgt := 208) dX6_readsTune_7 rfl (fun h7 => absurd h7 (by decide)) (fun h7 => ?_)
                refine g_aload0 dX6_readsTune_10 ?_
                refine f_cV0w (hfy) rfl (by decide) rfl oY_X6_isFine oI_X6_isFine lk_X6_230 rfl dX6_readsTune_11 rfl (Or.inl rfl) ?_
                refine g_if_eq ⟨by decide, by decide⟩ (tgt := 208) dX6_readsTune_14 rfl (fun h14 => absurd h14 (by decide)) (fun h14 => ?_)
                refine g_aload0 dX6_readsTune_17 ?_
                refine f_cV0x (hlook) rfl (by decide) rfl oY_X6_looks oI_X6_looks lk_X6_216 rfl dX6_readsTune_18 rfl (Or.inl rfl) ?_
                refine g_istore4 dX6_readsTune_21 rfl (by decide) ?_
                refine g_iload4 dX6_readsTune_23 ?_
                refine f_cS1w (hdg) oY_X6_isDigit oT_X6_isDigit lk_X6_234 rfl dX6_readsTune_25 rfl (Or.inl rfl) ?_
                refine g_if_eq ⟨by decide, by decide⟩ (tgt := 51) dX6_readsTune_28 rfl (fun h28 => ?_) (fun h28 => absurd h28 (by decide))
                refine g_iload4 dX6_readsTune_51 ?_
                refine f_cS1w (hlt) oY_X6_isLetter oT_X6_isLetter lk_X6_219 rfl dX6_readsTune_53 rfl (Or.inl rfl) ?_
                refine g_if_eq ⟨by decide, by decide⟩ (tgt := 92) dX6_readsTune_56 rfl (fun h56 => ?_) (fun h56 => absurd h56 (by decide))
                refine g_iload4 dX6_readsTune_92 ?_
                refine g_bipush dX6_readsTune_94 (by decide) ?_
                refine g_icmp_ne ⟨by omega, by omega⟩ ⟨by omega, by omega⟩ (tgt := 145) dX6_readsTune_96 rfl (fun h96 => ?_) (fun h96 => absurd h96 (by omega))
                refine g_iload4 dX6_readsTune_145 ?_
                refine g_bipush dX6_readsTune_147 (by decide) ?_
                refine g_icmp_ne ⟨by omega, by omega⟩ ⟨by omega, by omega⟩ (tgt := 186) dX6_readsTune_149 rfl (fun h149 => ?_) (fun h149 => absurd h149 (by omega))
                refine g_iload2 dX6_readsTune_186 ?_
                refine g_if_ne ⟨by omega, by omega⟩ (tgt := 194) dX6_readsTune_187 rfl (fun h187 => absurd h187 (by omega)) (fun h187 => ?_)
                refine g_iload1 dX6_readsTune_190 ?_
                refine g_if_le ⟨by omega, by omega⟩ (tgt := 203) dX6_readsTune_191 rfl (fun h191 => ?_) (fun h191 => absurd h191 (by omega))
                refine g_iconst dX6_readsTune_203 ?_
                refine g_istore3 dX6_readsTune_204 rfl (by decide) ?_
                refine g_goto (tgt := 6) dX6_readsTune_205 rfl ?_
                exact tuneM_G (Rv.yes rfl ⟨hK, ho⟩)
              · rw [if_neg c0]
                refine g_iload3 dX6_readsTune_6 ?_
                refine g_if_eq ⟨by decide, by decide⟩ (tgt := 208) dX6_readsTune_7 rfl (fun h7 => absurd h7 (by decide)) (fun h7 => ?_)
                refine g_aload0 dX6_readsTune_10 ?_
                refine f_cV0w (hfy) rfl (by decide) rfl oY_X6_isFine oI_X6_isFine lk_X6_230 rfl dX6_readsTune_11 rfl (Or.inl rfl) ?_
                refine g_if_eq ⟨by decide, by decide⟩ (tgt := 208) dX6_readsTune_14 rfl (fun h14 => absurd h14 (by decide)) (fun h14 => ?_)
                refine g_aload0 dX6_readsTune_17 ?_
                refine f_cV0x (hlook) rfl (by decide) rfl oY_X6_looks oI_X6_looks lk_X6_216 rfl dX6_readsTune_18 rfl (Or.inl rfl) ?_
                refine g_istore4 dX6_readsTune_21 rfl (by decide) ?_
                refine g_iload4 dX6_readsTune_23 ?_
                refine f_cS1w (hdg) oY_X6_isDigit oT_X6_isDigit lk_X6_234 rfl dX6_readsTune_25 rfl (Or.inl rfl) ?_
                refine g_if_eq ⟨by decide, by decide⟩ (tgt := 51) dX6_readsTune_28 rfl (fun h28 => ?_) (fun h28 => absurd h28 (by decide))
                refine g_iload4 dX6_readsTune_51 ?_
                refine f_cS1w (hlt) oY_X6_isLetter oT_X6_isLetter lk_X6_219 rfl dX6_readsTune_53 rfl (Or.inl rfl) ?_
                refine g_if_eq ⟨by decide, by decide⟩ (tgt := 92) dX6_readsTune_56 rfl (fun h56 => ?_) (fun h56 => absurd h56 (by decide))
                refine g_iload4 dX6_readsTune_92 ?_
                refine g_bipush dX6_readsTune_94 (by decide) ?_
                refine g_icmp_ne ⟨by omega, by omega⟩ ⟨by omega, by omega⟩ (tgt := 145) dX6_readsTune_96 rfl (fun h96 => ?_) (fun h96 => absurd h96 (by omega))
                refine g_iload4 dX6_readsTune_145 ?_
                refine g_bipush dX6_readsTune_147 (by decide) ?_
                refine g_icmp_ne ⟨by omega, by omega⟩ ⟨by omega, by omega⟩ (tgt := 186) dX6_readsTune_149 rfl (fun h149 => ?_) (fun h149 => absurd h149 (by omega))
                refine g_iload2 dX6_readsTune_186 ?_
                refine g_if_ne ⟨by omega, by omega⟩ (tgt := 194) dX6_readsTune_187 rfl (fun h187 => absurd h187 (by omega)) (fun h187 => ?_)
                refine g_iload1 dX6_readsTune_190 ?_
                refine g_if_le ⟨by omega, by omega⟩ (tgt := 203) dX6_readsTune_191 rfl (fun h191 => absurd h191 (by omega)) (fun h191 => ?_)
                refine g_aload0 dX6_readsTune_194 ?_
                refine g_iconst dX6_readsTune_195 ?_
                refine g_aload0 dX6_readsTune_196 ?_
                refine f_geti (J := 17) rfl (by decide) rfl rfl fl_X6_205 dX6_readsTune_197 ?_
                rw [hfr]
                refine f_cV2d (fails_0 hK.2.1) rfl (by decide) rfl oY_X6_fails oI_X6_fails lk_X6_237 rfl dX6_readsTune_200 rfl (Or.inl rfl) ?_
                refine g_iconst dX6_readsTune_203 ?_
                refine g_istore3 dX6_readsTune_204 rfl (by decide) ?_
                refine g_goto (tgt := 6) dX6_readsTune_205 rfl ?_
                exact tuneM_F (hK.fail (k := 1) (pl := q) ⟨by decide, by decide⟩) rfl (Or.inl rfl)
end C88
