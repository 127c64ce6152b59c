/-! Way.find -/
section C42
variable {g : gT} {σ : sT} {l : Nat → Nat}
theorem pd_le {m h a b : Int} (hm : m ≤ 9) (hh : h ≤ 9) : pd m h a b ≤ 9 := by unfold pd; split; omega; split <;> omega
theorem dC_le {m h p q : Int} (hm : m ≤ 9) (hh : h ≤ 9) (k : Nat) : dC m h k p q ≤ 9 * k := by
  induction k with
  | zero => exact Int.le_refl _
  | succ k ih =>
    have a1 := pd_le (a := dgt p k) (b := dgt q k) hm hh
    show dC m h k p q + pd m h (dgt p k) (dgt q k) ≤ _
    push_cast
    omega
theorem coD_le {m h b p q : Int} {H : Nat} (hm : m ≤ 9) (hh : h ≤ 9) (hb : 0 ≤ b ∧ b ≤ 9) (hH : H ≤ 7) : coD m h b H p q ≤ 72 := by
  have a1 := dC_le (p := p) (q := q) hm hh H
  unfold coD
  split <;> omega
theorem wyT_s {tu : Int → Int} {AH : Nat → Int → Int} {co : Int → Int → Int} {E : Nat → List Nat} (k : Nat) : wyT tu AH co E (k + 1) = if wyT tu AH co E k = -1 ∨ (tu k ≠ -1 ∧ wpF tu AH co E (k + 1) = -1) then -1 else wyT tu AH co E k + chg co (wpF tu AH co E k) (wpF tu AH co E (k + 1)) := rfl
theorem wpF_s {tu : Int → Int} {AH : Nat → Int → Int} {co : Int → Int → Int} {E : Nat → List Nat} (k : Nat) : wpF tu AH co E (k + 1) = wpN tu AH co E k (wpF tu AH co E k) := rfl
theorem wyT_rng {tu : Int → Int} {AH : Nat → Int → Int} {co : Int → Int → Int} {E : Nat → List Nat} (hco : ∀ p q, 0 ≤ co p q ∧ co p q ≤ 72) (k : Nat) : -1 ≤ wyT tu AH co E k ∧ wyT tu AH co E k ≤ 72 * k := by
  induction k with
  | zero => exact ⟨by show (-1 : Int) ≤ 0; decide, Int.le_refl _⟩
  | succ k ih =>
    rw [wyT_s]
    by_cases h : wyT tu AH co E k = -1 ∨ (tu k ≠ -1 ∧ wpF tu AH co E (k + 1) = -1)
    · rw [if_pos h]
      exact ⟨Int.le_refl _, by omega⟩
    · rw [if_neg h]
      have h1 : wyT tu AH co E k ≠ -1 := fun z => h (Or.inl z)
      have h2 := hco (wpF tu AH co E k) (wpF tu AH co E (k + 1))
      unfold chg
      push_cast
      split <;> omega
theorem wyT_stay {tu : Int → Int} {AH : Nat → Int → Int} {co : Int → Int → Int} {E : Nat → List Nat} {k n : Nat} (hk : k ≤ n) (h : wyT tu AH co E k = -1) : wyT tu AH co E n = -1 := by
  induction n with
  | zero => have : k = 0 := by omega
            subst this; exact h
  | succ n ih =>
    by_cases e : k = n + 1
    · rw [← e]; exact h
    · rw [wyT_s, if_pos (Or.inl (ih (by omega)))]
abbrev wE (TE tu : Int → Int) (H : Nat) (b : Int) : Nat → List Nat := fun k => EP TE (2 * 3 ^ H) (tu k + b)
def wA (co : Int → Int → Int) (E : Nat → List Nat) (tu : Int → Int) (n : Nat) : Nat → Int → Int := fun k => ahR co E tu (n - 1 - k) k
theorem wA_rng {co : Int → Int → Int} {E : Nat → List Nat} {tu : Int → Int} (hco : ∀ p q, 0 ≤ co p q) (n k : Nat) (p : Int) : 0 ≤ wA co E tu n k p ∧ wA co E tu n k p ≤ 1000000 := ahR_rng hco _ _ _
theorem wA_s {co : Int → Int → Int} {E : Nat → List Nat} {tu : Int → Int} {n k : Nat} {p : Int} : wA co E tu n k p = if k + 1 < n ∧ tu ((k : Int) + 1) ≠ -1 then leastTo co (wA co E tu n (k + 1)) (E (k + 1)) p else 0 := by
  unfold wA
  by_cases h : k + 1 < n
  · rw [show n - 1 - k = (n - 1 - (k + 1)) + 1 from by omega]
    show (if tu ((k + 1 : Nat) : Int) ≠ -1 then _ else _) = _
    push_cast
    by_cases h2 : tu ((k : Int) + 1) = -1
    · rw [if_neg (fun z => z h2), if_neg (fun z => z.2 h2)]
    · rw [if_pos h2, if_pos ⟨h, h2⟩]
  · rw [if_neg (fun z => h z.1), show n - 1 - k = 0 from by omega]
    rfl
theorem wpF_rng {TE tu : Int → Int} {H n : Nat} {b : Int} {co : Int → Int → Int} (hco : ∀ p q, 0 ≤ co p q ∧ co p q ≤ 72) {AH : Nat → Int → Int} (hAH : ∀ k p, 0 ≤ AH k p ∧ AH k p ≤ 1000000) (k : Nat) : -1 ≤ wpF tu AH co (wE TE tu H b) k ∧ wpF tu AH co (wE TE tu H b) k < 2 * ((3 ^ H : Nat) : Int) := by
  have hp0 := p3_pos H
  cases k with
  | zero => exact ⟨Int.le_refl _, by show (-1 : Int) < _; omega⟩
  | succ k =>
    rw [wpF_s]
    unfold wpN
    split
    · omega
    · have a1 := pkA_rng (TE := TE) (N := 2 * 3 ^ H) (t := tu k + b) (fun q => AH k q + (if wpF tu AH co (wE TE tu H b) k = -1 then 0 else co (wpF tu AH co (wE TE tu H b) k) q)) (fun i hi => by
        have a2 := hAH k ((EP TE (2 * 3 ^ H) (tu k + b)).getD i 0 : Nat)
        have a3 := hco (wpF tu AH co (wE TE tu H b) k) ((EP TE (2 * 3 ^ H) (tu k + b)).getD i 0 : Nat)
        split <;> omega)
      push_cast at a1 ⊢
      exact a1
/-- whether one of the first notes makes the row of all plays needed -/
def uU (tu TE : Int → Int) (H n : Nat) (b : Int) : Nat → Bool
  | 0 => false
  | k + 1 => uU tu TE H n b k || (decide (tu k ≠ -1) && uRow tu TE H n b k)
theorem uU_mono {tu TE : Int → Int} {H n : Nat} {b : Int} {k m : Nat} (hk : k ≤ m) (h : uU tu TE H n b k = true) : uU tu TE H n b m = true := by
  induction m with
  | zero => have : k = 0 := by omega
            subst this; exact h
  | succ m ih =>
    by_cases e : k = m + 1
    · rw [← e]; exact h
    · unfold uU
      rw [ih (by omega), Bool.true_or]
/-- what a way holds when it was found -/
def WyO (τ : sT) (l : Nat → Nat) (w n H : Nat) (b : Int) (co : Int → Int → Int) (tu TE : Int → Int) (rw_ : Nat → Int) : Prop :=
  τ w 0 = wyT tu (wA co (wE TE tu H b) tu n) co (wE TE tu H b) n ∧ (wyT tu (wA co (wE TE tu H b) tu n) co (wE TE tu H b) n ≠ -1 → ∀ k : Nat, k < n → τ (w + 1) k = wpF tu (wA co (wE TE tu H b) tu n) co (wE TE tu H b) (k + 1) ∧ τ (w + 2) k = cdZ ((3 ^ H : Nat) : Int) (wpF tu (wA co (wE TE tu H b) tu n) co (wE TE tu H b) (k + 1))) ∧ (∀ k : Nat, k < n → τ (w + 3) k = rw_ k) ∧ rw_ n ≤ (ln l (w + 4) : Int) ∧ ∀ k : Nat, k < n → tu k ≠ -1 → ∀ i q : Nat, (wE TE tu H b k)[i]? = some q → τ (w + 4) (rw_ k + i) = wA co (wE TE tu H b) tu n k q
theorem find_ok {w o H n A4 A5 len : Nat} {b : Int} {TE T : Int → Int} (hw : isWy w) (hs : isCh o) (hCh : ChO σ o TE T ((3 ^ H : Nat) : Int) (2 * 3 ^ H)) (hH : σ 1 8 = (H : Int)) (hH7 : H ≤ 7) (hn : σ 1 9 = (n : Int)) (hn40 : n ≤ 40) (ht : ∀ k, 0 ≤ k → k < (n : Int) → -1 ≤ σ 4 k ∧ σ 4 k ≤ 24) (hb : -12 ≤ b ∧ b ≤ 12) (hl6 : 2 * 3 ^ H ≤ ln l (o + 6)) (hl7 : 2 * 3 ^ H ≤ ln l (o + 7)) (hm : 0 ≤ σ 1 5 ∧ σ 1 5 ≤ 9) (hh : 0 ≤ σ 1 6 ∧ σ 1 6 ≤ 9) (hbr : 0 ≤ σ 1 7 ∧ σ 1 7 ≤ 9) (hlen : rwF σ o b n = (len : Int)) (hA4 : ln l (w + 4) = A4) (hA5 : ln l (w + 5) = A5) :
    Fu g zX4_find ((if A4 < len then 1 else 0) + (if uU (σ 4) TE H n b n = true ∧ A5 < 2 * 3 ^ H then 1 else 0)) ((if A4 < len then max len (2 * A4) else 0) + (if uU (σ 4) TE H n b n = true ∧ A5 < 2 * 3 ^ H then 2 * 3 ^ H else 0)) [.ref w, .ref 1, .ref o, iv b] σ l (fun τ l' => (∀ a, a < w ∨ w + 5 < a → τ a = σ a) ∧ WyO τ l' w n H b (coD (σ 1 5) (σ 1 6) (σ 1 7) H) (σ 4) TE (rwF σ o b) ∧ ln l' (w + 4) = (if A4 < len then max len (2 * A4) else A4) ∧ ln l' (w + 5) = (if uU (σ 4) TE H n b n = true then max A5 (2 * 3 ^ H) else A5) ∧ ∀ a, a ≠ w + 4 → a ≠ w + 5 → l' a = l a) := by
  have hwo := hw.2.1
  have hso := hs.2.1
  have hp0 := p3_pos H
  have hple := p3_le hH7
  have hNe : ((2 * 3 ^ H : Nat) : Int) = 2 * ((3 ^ H : Nat) : Int) := by push_cast; rfl
  have hNn : 2 * 3 ^ H ≤ 4374 := by omega
  have hcoR : ∀ p q, 0 ≤ coD (σ 1 5) (σ 1 6) (σ 1 7) H p q ∧ coD (σ 1 5) (σ 1 6) (σ 1 7) H p q ≤ 72 := fun p q => ⟨coD_ge hm.1 hh.1 hbr.1, coD_le hm.2 hh.2 hbr hH7⟩
  have hnc : ∀ z : Nat, z < n → 0 ≤ nC (σ 4) (σ (o + 1)) b z ∧ nC (σ 4) (σ (o + 1)) b z ≤ 4374 := by
    intro z hz
    unfold nC
    split
    · omega
    · obtain ⟨_, _, a1, a2, _⟩ := tone_of (l := l) hs hCh hNn (σ 4 z + b)
      rw [a1]; omega
  generalize hco : coD (σ 1 5) (σ 1 6) (σ 1 7) H = co at *
  generalize hKU : (if uU (σ 4) TE H n b n = true ∧ A5 < 2 * 3 ^ H then 1 else 0) = KU
  generalize hNU : (if uU (σ 4) TE H n b n = true ∧ A5 < 2 * 3 ^ H then 2 * 3 ^ H else 0) = NU
  refine Fn.of [some (.ref w), some (.ref 1), some (.ref o), some (iv b), none] rfl (by decide) (Nat.le_of_ble_eq_true rfl) rfl ?_
  refine g_aload0 dX4_find_0 ?_
  refine g_aload1 dX4_find_1 ?_
  refine g_aload2 dX4_find_2 ?_
  refine g_iload3 dX4_find_3 ?_
  refine f_cV3m (layRows_ok (A := A4) (len := len) hw hs hn hn40 ht hb hnc hlen hA4) hw.1 (hw.lt 0 (by decide)) rfl oY_X4_layRows oI_X4_layRows lk_X4_31 rfl dX4_find_4 (by omega) (by omega) rfl (Or.inr ⟨⟨⟨Or.inl (hw.lt 0 (by decide)), hw.ow⟩, (show okV 110 (.ref 1) from okVb_of rfl), ⟨Or.inl (hs.lt 0 (by decide)), hs.ow⟩, trivial, trivial, trivial⟩, trivial⟩) (fun σ4 l4 h4 => ?_)
  obtain ⟨f1, r1, n4, g1⟩ := h4
  rw [Nat.add_sub_cancel_left, Nat.add_sub_cancel_left]
  have hmono : ∀ x y : Nat, x ≤ y → y ≤ n → rwF σ o b x ≤ rwF σ o b y := by
    intro x y hxy
    induction y with
    | zero => intro _; have : x = 0 := by omega
              subst this; exact Int.le_refl _
    | succ y ihy =>
      intro hy
      by_cases e : x = y + 1
      · rw [e]; exact Int.le_refl _
      · have a1 := ihy (by omega) (by omega)
        have a2 := hnc y (by omega)
        show _ ≤ frI (nC (σ 4) (σ (o + 1)) b) (y + 1)
        rw [frI_s]
        have : rwF σ o b y = frI (nC (σ 4) (σ (o + 1)) b) y := rfl
        omega
  have hCh_of : ∀ ρ : sT, (∀ a, o + 1 ≤ a → a ≤ o + 7 → ρ a = σ a) → ChO ρ o TE T ((3 ^ H : Nat) : Int) (2 * 3 ^ H) := by
    intro ρ hρ
    unfold ChO at *
    rw [hρ (o + 1) (by omega) (by omega), hρ (o + 3) (by omega) (by omega), hρ (o + 4) (by omega) (by omega), hρ (o + 6) (by omega) (by omega), hρ (o + 7) (by omega) (by omega)]
    exact hCh
  have hRn4 : rwF σ o b n ≤ (ln l4 (w + 4) : Int) := by rw [n4, hlen]; split <;> omega
  -- the way
  have ways : ∀ (τ : sT) (l1 : Nat → Nat) (kk nn : Nat) (i : Int), (∀ a, a < w ∨ w + 5 < a → τ a = σ a) → (∀ k : Nat, k < n → τ (w + 3) k = rwF σ o b k) → (∀ k : Nat, k < n → σ 4 k ≠ -1 → ∀ i q : Nat, (wE TE (σ 4) H b k)[i]? = some q → τ (w + 4) (rwF σ o b k + i) = wA co (wE TE (σ 4) H b) (σ 4) n k q) → ln l1 (w + 5) = (if uU (σ 4) TE H n b n = true then max A5 (2 * 3 ^ H) else A5) → (∀ a, a ≠ w + 5 → l1 a = l4 a) → FW g zX4_find kk nn (fun q τ l' => q = .inl none ∧ (∀ a, a < w ∨ w + 5 < a → τ a = σ a) ∧ WyO τ l' w n H b co (σ 4) TE (rwF σ o b) ∧ ln l' (w + 4) = (if A4 < len then max len (2 * A4) else A4) ∧ ln l' (w + 5) = (if uU (σ 4) TE H n b n = true then max A5 (2 * 3 ^ H) else A5) ∧ ∀ a, a ≠ w + 4 → a ≠ w + 5 → l' a = l a) 44 [some (.ref w), some (.ref 1), some (.ref o), some (iv b), some (iv i)] [] τ l1 := by
    intro τ l1 kk nn i0 hfr hrows hahs hl5 hl1
    have hl4 : ln l1 (w + 4) = ln l4 (w + 4) := by unfold ln; rw [hl1 (w + 4) (by omega)]
    have lnE : ∀ a, a ≠ w + 4 → a ≠ w + 5 → ln l1 a = ln l a := fun a a4 a5 => by unfold ln; rw [hl1 a a5, g1 a a4]
    have e4 : τ 4 = σ 4 := hfr 4 (by omega)
    have eo1 : τ (o + 1) = σ (o + 1) := hfr (o + 1) (by omega)
    have e1 : τ 1 = σ 1 := hfr 1 (by omega)
    have loop : ∀ k, k ≤ n → ∀ (i : Int) (ρ : sT), i = (k : Int) → (∀ a, a ≠ w → a ≠ w + 1 → a ≠ w + 2 → ρ a = τ a) → ρ w 0 = wyT (σ 4) (wA co (wE TE (σ 4) H b) (σ 4) n) co (wE TE (σ 4) H b) k → (wyT (σ 4) (wA co (wE TE (σ 4) H b) (σ 4) n) co (wE TE (σ 4) H b) k ≠ -1 → ∀ i : Nat, i < k → ρ (w + 1) i = wpF (σ 4) (wA co (wE TE (σ 4) H b) (σ 4) n) co (wE TE (σ 4) H b) (i + 1) ∧ ρ (w + 2) i = cdZ ((3 ^ H : Nat) : Int) (wpF (σ 4) (wA co (wE TE (σ 4) H b) (σ 4) n) co (wE TE (σ 4) H b) (i + 1))) → FW g zX4_find kk nn (fun q τ l' => q = .inl none ∧ (∀ a, a < w ∨ w + 5 < a → τ a = σ a) ∧ WyO τ l' w n H b co (σ 4) TE (rwF σ o b) ∧ ln l' (w + 4) = (if A4 < len then max len (2 * A4) else A4) ∧ ln l' (w + 5) = (if uU (σ 4) TE H n b n = true then max A5 (2 * 3 ^ H) else A5) ∧ ∀ a, a ≠ w + 4 → a ≠ w + 5 → l' a = l a) 52 [some (.ref w), some (.ref 1), some (.ref o), some (iv b), some (iv i)] [] ρ l1 := by
      refine loopUp n (fun k hk ih i ρ hi hf hT hW => ?_)
      subst hi
      have d1 : ρ 1 = σ 1 := by rw [hf 1 (by omega) (by omega) (by omega), e1]
      have d4 : ρ 4 = σ 4 := by rw [hf 4 (by omega) (by omega) (by omega), e4]
      have do1 : ρ (o + 1) = σ (o + 1) := by rw [hf (o + 1) (by omega) (by omega) (by omega), eo1]
      have drw : ∀ z, rwF ρ o b z = rwF σ o b z := fun z => by show frI (nC (ρ 4) (ρ (o + 1)) b) z = _; rw [d4, do1]
      have hTr := wyT_rng (tu := σ 4) (AH := wA co (wE TE (σ 4) H b) (σ 4) n) (E := wE TE (σ 4) H b) hcoR k
      have done : (k = n ∨ wyT (σ 4) (wA co (wE TE (σ 4) H b) (σ 4) n) co (wE TE (σ 4) H b) k = -1) → fΦ (fun q τ l' => q = .inl none ∧ (∀ a, a < w ∨ w + 5 < a → τ a = σ a) ∧ WyO τ l' w n H b co (σ 4) TE (rwF σ o b) ∧ ln l' (w + 4) = (if A4 < len then max len (2 * A4) else A4) ∧ ln l' (w + 5) = (if uU (σ 4) TE H n b n = true then max A5 (2 * 3 ^ H) else A5) ∧ ∀ a, a ≠ w + 4 → a ≠ w + 5 → l' a = l a) (.inl none) (mem ρ l1) := by
        intro hkn
        have hTn : wyT (σ 4) (wA co (wE TE (σ 4) H b) (σ 4) n) co (wE TE (σ 4) H b) k = wyT (σ 4) (wA co (wE TE (σ 4) H b) (σ 4) n) co (wE TE (σ 4) H b) n := by
          rcases hkn with rfl | z
          · rfl
          · rw [z, wyT_stay hk z]
        refine Fu.ret ⟨fun a ha => by rw [hf a (by omega) (by omega) (by omega), hfr a ha], ⟨by rw [hT, hTn], fun z i hi => ?_, fun z hz => by rw [hf (w + 3) (by omega) (by omega) (by omega)]; exact hrows z hz, by rw [hl4]; exact hRn4, fun z hz z1 i q hq => by rw [hf (w + 4) (by omega) (by omega) (by omega)]; exact hahs z hz z1 i q hq⟩, by rw [hl4]; exact n4, hl5, fun a a4 a5 => by rw [hl1 a a5, g1 a a4]⟩
        rw [← hTn] at z
        rcases hkn with rfl | z2
        · exact hW z i hi
        · exact absurd z2 z
      refine g_iload4 dX4_find_52 ?_
      refine g_aload1 dX4_find_54 ?_
      refine f_geti (J := 9) rfl (by decide) rfl rfl fl_X4_35 dX4_find_55 ?_
      rw [d1, hn]
      refine g_icmp_ge ⟨by omega, by omega⟩ ⟨by omega, by omega⟩ (tgt := 84) dX4_find_58 rfl (fun h58 => ?_) (fun h58 => ?_)
      · refine g_return rfl dX4_find_84 ?_
        first
          | exact done (Or.inl (by omega))
          | exact done (Or.inr h66)
      · refine g_aload0 dX4_find_61 ?_
        refine f_geti (J := 0) hw.1 (hw.lt 0 (by decide)) rfl rfl fl_X4_9 dX4_find_62 ?_
        rw [hT]
        refine g_iconst dX4_find_65 ?_
        refine g_icmp_eq ⟨by omega, by omega⟩ ⟨by omega, by omega⟩ (tgt := 84) dX4_find_66 rfl (fun h66 => ?_) (fun h66 => ?_)
        · refine g_return rfl dX4_find_84 ?_
          first
            | exact done (Or.inl (by omega))
            | exact done (Or.inr h66)
        · refine g_aload0 dX4_find_69 ?_
          refine g_aload1 dX4_find_70 ?_
          refine g_aload2 dX4_find_71 ?_
          refine g_iload4 dX4_find_72 ?_
          refine g_iload3 dX4_find_74 ?_
          refine f_cV4m (chooseAt_ok (j := k) (n := n) (pv := wpF (σ 4) (wA co (wE TE (σ 4) H b) (σ 4) n) co (wE TE (σ 4) H b) k) (f := wA co (wE TE (σ 4) H b) (σ 4) n k) hw hs (hCh_of ρ (fun a a0 a1 => by rw [hf a (by omega) (by omega) (by omega), hfr a (by omega)])) (by rw [d1]; exact hH) hH7 (by rw [d1]; exact hn) hn40 (by omega) (by rw [d4]; exact ht) hb (by rw [lnE (o + 6) (by omega) (by omega)]; exact hl6) (by rw [lnE (o + 7) (by omega) (by omega)]; exact hl7) (by rw [d1]; exact hm) (by rw [d1]; exact hh) (by rw [d1]; exact hbr) (fun z hz => by rw [drw, hf (w + 3) (by omega) (by omega) (by omega)]; exact hrows z hz) (by rw [drw, hl4]; exact hRn4) (fun z i q hq => by rw [d4] at z hq; rw [drw, hf (w + 4) (by omega) (by omega) (by omega)]; exact ⟨hahs k (by omega) z i q hq, wA_rng (fun p q => (hcoR p q).1) _ _ _⟩) (wpF_rng (n := n) hcoR (fun z p => wA_rng (fun p q => (hcoR p q).1) _ _ _) k) (fun z => by rw [z]; rfl) (fun z => by have := (hW h66 (k - 1) (by omega)).2; rw [show (((k - 1 : Nat) : Nat) : Int) = (k : Int) - 1 from by omega, show k - 1 + 1 = k from by omega] at this; exact this)) hw.1 (hw.lt 0 (by decide)) rfl oY_X4_chooseAt oI_X4_chooseAt lk_X4_48 rfl dX4_find_75 (by omega) (by omega) rfl (Or.inr ⟨⟨⟨Or.inl (hw.lt 0 (by decide)), hw.ow⟩, (show okV 110 (.ref 1) from okVb_of rfl), ⟨Or.inl (hs.lt 0 (by decide)), hs.ow⟩, trivial, trivial, trivial⟩, trivial⟩) (fun σ75 l75 h75 => ?_)
          obtain ⟨hl75, f2, t2, o2, p2⟩ := h75
          subst hl75
          rw [d4, d1, hco] at t2 p2
          have hwN : wpN (σ 4) (fun _ => wA co (wE TE (σ 4) H b) (σ 4) n k) co (fun k => EP TE (2 * 3 ^ H) (σ 4 k + b)) k (wpF (σ 4) (wA co (wE TE (σ 4) H b) (σ 4) n) co (wE TE (σ 4) H b) k) = wpF (σ 4) (wA co (wE TE (σ 4) H b) (σ 4) n) co (wE TE (σ 4) H b) (k + 1) := rfl
          rw [hwN] at t2 p2
          refine g_iinc4 dX4_find_78 rfl (by decide) ?_
          refine g_goto (tgt := 52) dX4_find_81 rfl ?_
          have hbad : wyT (σ 4) (wA co (wE TE (σ 4) H b) (σ 4) n) co (wE TE (σ 4) H b) (k + 1) ≠ -1 → ¬ (σ 4 k ≠ -1 ∧ wpF (σ 4) (wA co (wE TE (σ 4) H b) (σ 4) n) co (wE TE (σ 4) H b) (k + 1) = -1) := fun z z2 => z (by rw [wyT_s, if_pos (Or.inr z2)])
          refine ih (by omega) _ _ (by push_cast; omega) (fun a a0 a1 a2 => by rw [f2 a a0 a1 a2, hf a a0 a1 a2]) ?_ (fun z i hi => ?_)
          · rw [t2, hT, wyT_s]
            by_cases z : σ 4 k ≠ -1 ∧ wpF (σ 4) (wA co (wE TE (σ 4) H b) (σ 4) n) co (wE TE (σ 4) H b) (k + 1) = -1
            · rw [if_pos z, if_pos (Or.inr z)]
            · rw [if_neg z, if_neg (fun q => q.elim h66 z)]
          · by_cases e : i = k
            · subst e
              exact p2 (hbad z)
            · rw [(o2 i (by omega)).1, (o2 i (by omega)).2]
              exact hW h66 i (by omega)
    refine g_aload0 dX4_find_44 ?_
    refine g_iconst dX4_find_45 ?_
    refine f_puti (J := 0) hw.1 (hw.lt 0 (by decide)) rfl rfl fl_X4_9 rfl (fun _ _ _ h => by cases h; rfl) dX4_find_46 ?_
    refine g_iconst dX4_find_49 ?_
    refine g_istore4 dX4_find_50 rfl (by decide) ?_
    refine loop 0 (Nat.zero_le _) _ _ rfl (fun a a0 a1 a2 => by rw [up_n a0]) up_eq (fun z i hi => by omega)
  -- the rows
  have rows : ∀ j : Nat, j ≤ n → ∀ (i : Int) (kk nn : Nat) (τ : sT) (l1 : Nat → Nat), i = (j : Int) - 1 → (∀ a, a ≠ w + 3 → a ≠ w + 4 → a ≠ w + 5 → τ a = σ a) → (∀ k : Nat, k < n → τ (w + 3) k = rwF σ o b k) → (∀ k : Nat, j ≤ k → k < n → σ 4 k ≠ -1 → ∀ i q : Nat, (wE TE (σ 4) H b k)[i]? = some q → τ (w + 4) (rwF σ o b k + i) = wA co (wE TE (σ 4) H b) (σ 4) n k q) → (∀ a, a ≠ w + 5 → l1 a = l4 a) → ((ln l1 (w + 5) = A5 ∧ (uU (σ 4) TE H n b n = true → uU (σ 4) TE H n b j = true) ∧ (uU (σ 4) TE H n b j = true → A5 < 2 * 3 ^ H → 1 ≤ kk ∧ 2 * 3 ^ H ≤ nn)) ∨ (ln l1 (w + 5) = max A5 (2 * 3 ^ H) ∧ uU (σ 4) TE H n b n = true)) → FW g zX4_find kk nn (fun q τ l' => q = .inl none ∧ (∀ a, a < w ∨ w + 5 < a → τ a = σ a) ∧ WyO τ l' w n H b co (σ 4) TE (rwF σ o b) ∧ ln l' (w + 4) = (if A4 < len then max len (2 * A4) else A4) ∧ ln l' (w + 5) = (if uU (σ 4) TE H n b n = true then max A5 (2 * 3 ^ H) else A5) ∧ ∀ a, a ≠ w + 4 → a ≠ w + 5 → l' a = l a) 15 [some (.ref w), some (.ref 1), some (.ref o), some (iv b), some (iv i)] [] τ l1 := by
    refine loopDn (fun j ih hjn i kk nn τ l1 hi hfr hrows hahs hl1 hU => ?_)
    subst hi
    have hl4 : ln l1 (w + 4) = ln l4 (w + 4) := by unfold ln; rw [hl1 (w + 4) (by omega)]
    have lnE : ∀ a, a ≠ w + 4 → a ≠ w + 5 → ln l1 a = ln l a := fun a a4 a5 => by unfold ln; rw [hl1 a a5, g1 a a4]
    have d4 : τ 4 = σ 4 := hfr 4 (by omega) (by omega) (by omega)
    have do1 : τ (o + 1) = σ (o + 1) := hfr (o + 1) (by omega) (by omega) (by omega)
    have d1 : τ 1 = σ 1 := hfr 1 (by omega) (by omega) (by omega)
    have drw : ∀ z, rwF τ o b z = rwF σ o b z := fun z => by show frI (nC (τ 4) (τ (o + 1)) b) z = _; rw [d4, do1]
    refine g_iload4 dX4_find_15 ?_
    refine g_if_lt ⟨by omega, by omega⟩ (tgt := 44) dX4_find_17 rfl (fun h17 => ?_) (fun h17 => ?_)
    · have j0 : j = 0 := by omega
      subst j0
      refine ways τ l1 kk nn _ (fun a ha => hfr a (by omega) (by omega) (by omega)) hrows (fun k hk => hahs k (Nat.zero_le _) hk) ?_ hl1
      rcases hU with ⟨u1, u2, _⟩ | ⟨u1, u2⟩
      · rw [u1, if_neg (fun z => by have := u2 z; cases this)]
      · rw [u1, if_pos u2]
    · obtain ⟨j, rfl⟩ : ∃ z, j = z + 1 := ⟨j - 1, by omega⟩
      rw [show ((j + 1 : Nat) : Int) - 1 = (j : Int) from by omega] at *
      have htj := ht j (by omega) (by omega)
      have hUs : uU (σ 4) TE H n b (j + 1) = (uU (σ 4) TE H n b j || (decide (σ 4 j ≠ -1) && uRow (σ 4) TE H n b j)) := rfl
      refine g_aload1 dX4_find_20 ?_
      refine g_iload4 dX4_find_21 ?_
      refine f_cV1w (isRest_ok isSt1 ⟨by omega, by omega⟩ ⟨by show -2147483648 ≤ τ 4 j; rw [d4]; omega, by show τ 4 j ≤ 2147483647; rw [d4]; omega⟩) rfl (by decide) rfl oY_X3_isRest oI_X3_isRest lk_X4_40 rfl dX4_find_23 rfl (Or.inl rfl) ?_
      rw [show bv (τ (1 + 3) (j : Int) = -1) = bv (σ 4 (j : Int) = -1) from by show bv (τ 4 (j : Int) = -1) = _; rw [d4]]
      refine g_ifneB (tgt := 38) dX4_find_26 rfl (fun h26 => ?_) (fun h26 => ?_)
      · refine g_iinc4 dX4_find_38 rfl (by decide) ?_
        refine g_goto (tgt := 15) dX4_find_41 rfl ?_
        refine ih j rfl (by omega) _ _ _ _ _ (by omega) hfr hrows (fun k hk hk2 hk3 => ?_) hl1 ?_
        · by_cases e : k = j
          · subst e; exact absurd h26 hk3
          · exact hahs k (by omega) hk2 hk3
        · have e : uU (σ 4) TE H n b (j + 1) = uU (σ 4) TE H n b j := by rw [hUs, show decide (σ 4 (j : Int) ≠ -1) = false from decide_eq_false (fun z => z h26), Bool.false_and, Bool.or_false]
          rw [e] at hU
          exact hU
      · have hbudg : uRow (σ 4) TE H n b j = true ∧ ln l1 (w + 5) < 2 * 3 ^ H → 1 ≤ kk := fun z => by
          have hUj : uU (σ 4) TE H n b (j + 1) = true := by rw [hUs, z.1, show decide (σ 4 (j : Int) ≠ -1) = true from decide_eq_true h26]; simp
          rcases hU with ⟨u1, u2, u3⟩ | ⟨u1, u2⟩
          · exact (u3 hUj (by omega)).1
          · omega
        have hbudg2 : uRow (σ 4) TE H n b j = true ∧ ln l1 (w + 5) < 2 * 3 ^ H → 2 * 3 ^ H ≤ nn := fun z => by
          have hUj : uU (σ 4) TE H n b (j + 1) = true := by rw [hUs, z.1, show decide (σ 4 (j : Int) ≠ -1) = true from decide_eq_true h26]; simp
          rcases hU with ⟨u1, u2, u3⟩ | ⟨u1, u2⟩
          · exact (u3 hUj (by omega)).2
          · omega
        refine g_aload0 dX4_find_29 ?_
        refine g_aload1 dX4_find_30 ?_
        refine g_aload2 dX4_find_31 ?_
        refine g_iload4 dX4_find_32 ?_
        refine g_iload3 dX4_find_34 ?_
        refine f_cV4m (reckonRow_ok (j := j) (n := n) (A5 := ln l1 (w + 5)) (f := wA co (wE TE (σ 4) H b) (σ 4) n (j + 1)) hw hs (hCh_of τ (fun a a0 a1 => hfr a (by omega) (by omega) (by omega))) (by rw [d1]; exact hH) hH7 (by rw [d1]; exact hn) hn40 (by omega) (by rw [d4]; exact ht) hb (by rw [lnE (o + 6) (by omega) (by omega)]; exact hl6) (by rw [lnE (o + 7) (by omega) (by omega)]; exact hl7) (by rw [d1]; exact hm) (by rw [d1]; exact hh) (by rw [d1]; exact hbr) (by rw [d4]; exact h26) (fun z hz => by rw [drw]; exact hrows z hz) (by rw [drw, hl4]; exact hRn4) rfl (fun z z2 i q hq => by rw [d4] at z2 hq; rw [drw]; have a1 := hahs (j + 1) (by omega) z (by push_cast; exact z2) i q (by show (EP TE (2 * 3 ^ H) (σ 4 ((j + 1 : Nat) : Int) + b))[i]? = _; push_cast; exact hq); exact ⟨a1, wA_rng (fun p q => (hcoR p q).1) _ _ _⟩)) hw.1 (hw.lt 0 (by decide)) rfl oY_X4_reckonRow oI_X4_reckonRow lk_X4_44 rfl dX4_find_35 (by rw [d4]; split; exact hbudg (by assumption); omega) (by rw [d4]; split; exact hbudg2 (by assumption); omega) rfl (Or.inr ⟨⟨⟨Or.inl (hw.lt 0 (by decide)), hw.ow⟩, (show okV 110 (.ref 1) from okVb_of rfl), ⟨Or.inl (hs.lt 0 (by decide)), hs.ow⟩, trivial, trivial, trivial⟩, trivial⟩) (fun σ35 l35 h35 => ?_)
        obtain ⟨f2, p2, o2, n2, m2⟩ := h35
        rw [d4] at n2
        rw [d4, drw, d1, hco] at p2
        rw [drw, drw] at o2
        have hUj : uRow (σ 4) TE H n b j = true → uU (σ 4) TE H n b (j + 1) = true := fun z => by rw [hUs, z, show decide (σ 4 (j : Int) ≠ -1) = true from decide_eq_true h26]; simp
        have hUj2 : uRow (σ 4) TE H n b j ≠ true → uU (σ 4) TE H n b (j + 1) = uU (σ 4) TE H n b j := fun z => by rw [hUs, show uRow (σ 4) TE H n b j = false from by simpa using z]; simp
        refine g_iinc4 dX4_find_38 rfl (by decide) ?_
        refine g_goto (tgt := 15) dX4_find_41 rfl ?_
        refine ih j rfl (by omega) _ _ _ _ _ (by omega) (fun a a3 a4 a5 => by rw [f2 a a4 a5, hfr a a3 a4 a5]) (fun k hk => by rw [f2 (w + 3) (by omega) (by omega)]; exact hrows k hk) (fun k hk hk2 hk3 i q hq => ?_) (fun a ha => by rw [m2 a ha, hl1 a ha]) ?_
        · by_cases e : k = j
          · subst e
            rw [p2 i q hq, wA_s]
            rfl
          · rw [o2 _ (Or.inr (by have := hmono (j + 1) k (by omega) (by omega); omega))]
            exact hahs k (by omega) hk2 hk3 i q hq
        · rw [d4]
          by_cases hu : uRow (σ 4) TE H n b j = true
          · refine Or.inr ⟨?_, uU_mono hjn (hUj hu)⟩
            rw [n2, if_pos hu]
            rcases hU with ⟨u1, _, _⟩ | ⟨u1, _⟩ <;> rw [u1] <;> omega
          · rw [if_neg (fun z => hu z.1), if_neg (fun z => hu z.1), n2, if_neg hu, Nat.sub_zero, Nat.sub_zero, ← hUj2 hu]
            exact hU
  refine g_aload1 dX4_find_7 ?_
  refine f_geti (J := 9) rfl (by decide) rfl rfl fl_X4_35 dX4_find_8 ?_
  rw [f1 1 (by omega) (by omega), hn]
  refine g_iconst dX4_find_11 ?_
  refine g_isub dX4_find_12 ?_
  refine g_istore4 dX4_find_13 rfl (by decide) ?_
  refine rows n (Nat.le_refl _) _ _ _ _ _ rfl (fun a a3 a4 a5 => f1 a a3 a4) r1 (fun k hk hk2 => by omega) (fun a ha => rfl) (Or.inl ⟨?_, fun z => z, fun z z2 => ?_⟩)
  · rw [← hA5]; unfold ln; rw [g1 (w + 5) (by omega)]
  · rw [if_pos ⟨z, z2⟩] at hKU hNU
    omega
end C42
