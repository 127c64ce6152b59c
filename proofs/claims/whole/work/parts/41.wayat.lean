/-! Way.reckonRow as a contract, the ways of a tune, Way.chooseAt -/
section C41
variable {g : gT} {σ : sT} {l : Nat → Nat}
theorem reckonRow_ok {w o H n j A5 : Nat} {b : Int} {TE T f : Int → Int} (hw : isWy w) (hs : isCh o) (hCh : ChO σ o TE T ((3 ^ H : Nat) : Int) (2 * 3 ^ H)) (hH : σ 1 8 = (H : Int)) (hH7 : H ≤ 7) (hn : σ 1 9 = (n : Int)) (hn40 : n ≤ 40) (hj : j < n) (ht : ∀ k, 0 ≤ k → k < (n : Int) → -1 ≤ σ 4 k ∧ σ 4 k ≤ 24) (hb : -12 ≤ b ∧ b ≤ 12) (hl6 : 2 * 3 ^ H ≤ ln l (o + 6)) (hl7 : 2 * 3 ^ H ≤ ln l (o + 7)) (hm : 0 ≤ σ 1 5 ∧ σ 1 5 ≤ 9) (hh : 0 ≤ σ 1 6 ∧ σ 1 6 ≤ 9) (hbr : 0 ≤ σ 1 7 ∧ σ 1 7 ≤ 9)
    (hj0 : σ 4 j ≠ -1) (hrows : ∀ k : Nat, k < n → σ (w + 3) k = rwF σ o b k) (hlen : rwF σ o b n ≤ (ln l (w + 4) : Int)) (hA5 : ln l (w + 5) = A5)
    (hnx : j + 1 < n → σ 4 (j + 1) ≠ -1 → ∀ i q : Nat, (EP TE (2 * 3 ^ H) (σ 4 (j + 1) + b))[i]? = some q → σ (w + 4) (rwF σ o b (j + 1) + i) = f q ∧ 0 ≤ f q ∧ f q ≤ 1000000) :
    Fu g zX4_reckonRow (if uRow (σ 4) TE H n b j = true ∧ A5 < 2 * 3 ^ H then 1 else 0) (if uRow (σ 4) TE H n b j = true ∧ A5 < 2 * 3 ^ H then 2 * 3 ^ H else 0) [.ref w, .ref 1, .ref o, iv (j : Int), iv b] σ l (fun τ l' => (∀ a, a ≠ w + 4 → a ≠ w + 5 → τ a = σ a) ∧ (∀ i q : Nat, (EP TE (2 * 3 ^ H) (σ 4 j + b))[i]? = some q → τ (w + 4) (rwF σ o b j + i) = if j + 1 < n ∧ σ 4 (j + 1) ≠ -1 then leastTo (coD (σ 1 5) (σ 1 6) (σ 1 7) H) f (EP TE (2 * 3 ^ H) (σ 4 (j + 1) + b)) q else 0) ∧ (∀ p, (p < rwF σ o b j ∨ rwF σ o b (j + 1) ≤ p) → τ (w + 4) p = σ (w + 4) p) ∧ ln l' (w + 5) = (if uRow (σ 4) TE H n b j = true then max A5 (2 * 3 ^ H) else A5) ∧ (∀ a, a ≠ w + 5 → l' a = l a)) := by
  refine Fn.of [some (.ref w), some (.ref 1), some (.ref o), some (iv (j : Int)), some (iv b), none, none, none] rfl (by decide) (Nat.le_of_ble_eq_true rfl) rfl ?_
  refine reckonRow_core (f := f) hw hs hCh hH hH7 hn hn40 hj ht hb hl6 hl7 hm hh hbr hj0 hrows hlen hA5 hnx (fun u1 u2 => ?_) (fun τ l' a1 a2 a3 a4 a5 => ⟨rfl, a1, a2, a3, a4, a5⟩)
  rw [if_pos ⟨u1, u2⟩, if_pos ⟨u1, u2⟩]
  exact ⟨Nat.le_refl _, Nat.le_refl _⟩
theorem pk_congr {f g : Nat → Int} (n : Nat) (h : ∀ i, i < n → f i = g i) : pk f n = pk g n := by
  induction n with
  | zero => rfl
  | succ n ih =>
    unfold pk
    rw [ih (fun i hi => h i (by omega)), h n (by omega)]
/-- the first least play of a list; -1 of none -/
def pkA (f : Int → Int) (L : List Nat) : Int := if (pk (fun i => f (L.getD i 0 : Nat)) L.length).1 = -1 then -1 else (L.getD (pk (fun i => f (L.getD i 0 : Nat)) L.length).1.toNat 0 : Nat)
/-- the play of a note, by the play of the note ahead -/
def wpN (tu : Int → Int) (AH : Nat → Int → Int) (co : Int → Int → Int) (E : Nat → List Nat) (k : Nat) (pv : Int) : Int := if tu k = -1 then -1 else pkA (fun q => AH k q + (if pv = -1 then 0 else co pv q)) (E k)
/-- the play of the note behind which k notes stand -/
def wpF (tu : Int → Int) (AH : Nat → Int → Int) (co : Int → Int → Int) (E : Nat → List Nat) : Nat → Int
  | 0 => -1
  | k + 1 => wpN tu AH co E k (wpF tu AH co E k)
def chg (co : Int → Int → Int) (p q : Int) : Int := if p = -1 ∨ q = -1 then 0 else co p q
/-- the cost of the first k notes; -1 if one has no play -/
def wyT (tu : Int → Int) (AH : Nat → Int → Int) (co : Int → Int → Int) (E : Nat → List Nat) : Nat → Int
  | 0 => 0
  | k + 1 => if wyT tu AH co E k = -1 ∨ (tu k ≠ -1 ∧ wpF tu AH co E (k + 1) = -1) then -1 else wyT tu AH co E k + chg co (wpF tu AH co E k) (wpF tu AH co E (k + 1))
/-- what the notes behind cost at least -/
def ahR (co : Int → Int → Int) (E : Nat → List Nat) (tu : Int → Int) : Nat → Nat → Int → Int
  | 0, _, _ => 0
  | r + 1, j, p => if tu ((j + 1 : Nat) : Int) ≠ -1 then leastTo co (ahR co E tu r (j + 1)) (E (j + 1)) p else 0
theorem ahR_rng {co : Int → Int → Int} {E : Nat → List Nat} {tu : Int → Int} (hco : ∀ p q, 0 ≤ co p q) (r : Nat) : ∀ j p, 0 ≤ ahR co E tu r j p ∧ ahR co E tu r j p ≤ 1000000 := by
  induction r with
  | zero => intro j p; exact ⟨Int.le_refl _, by show (0 : Int) ≤ 1000000; decide⟩
  | succ r ih =>
    intro j p
    unfold ahR
    split
    · exact ⟨leastTo_ge (fun i _ => by have a1 := hco p ((E (j + 1)).getD i 0 : Nat); have a2 := (ih (j + 1) ((E (j + 1)).getD i 0 : Nat)).1; omega), leastTo_le _ _ _ _⟩
    · exact ⟨Int.le_refl _, by decide⟩
def cdZ (c p : Int) : Int := if p = -1 then -1 else (cdP c p : Int)
theorem cdZ_ok (c p : Int) : okCd (cdZ c p) := by
  unfold cdZ okCd
  have := cdP_lt c p
  split <;> omega
theorem cdZ_ne {c p : Int} (h : p ≠ -1) : cdZ c p ≠ -1 := by unfold cdZ; rw [if_neg h]; omega
theorem pkA_rng {TE : Int → Int} {N : Nat} {t : Int} (f : Int → Int) (hf : ∀ i, i < (EP TE N t).length → -1000 ≤ f ((EP TE N t).getD i 0 : Nat) ∧ f ((EP TE N t).getD i 0 : Nat) ≤ 1100000) : -1 ≤ pkA f (EP TE N t) ∧ pkA f (EP TE N t) < N := by
  have hr := pk_rng (fun i => f ((EP TE N t).getD i 0 : Nat)) (EP TE N t).length hf
  unfold pkA
  split
  · omega
  · have := (EP_lt (getD_some (L := EP TE N t) (i := (pk (fun i => f ((EP TE N t).getD i 0 : Nat)) (EP TE N t).length).1.toNat) (by omega))).1
    omega
theorem chooseAt_ok {w o H n j : Nat} {b pv : Int} {TE T f : Int → Int} (hw : isWy w) (hs : isCh o) (hCh : ChO σ o TE T ((3 ^ H : Nat) : Int) (2 * 3 ^ H)) (hH : σ 1 8 = (H : Int)) (hH7 : H ≤ 7) (hn : σ 1 9 = (n : Int)) (hn40 : n ≤ 40) (hj : j < n) (ht : ∀ k, 0 ≤ k → k < (n : Int) → -1 ≤ σ 4 k ∧ σ 4 k ≤ 24) (hb : -12 ≤ b ∧ b ≤ 12) (hl6 : 2 * 3 ^ H ≤ ln l (o + 6)) (hl7 : 2 * 3 ^ H ≤ ln l (o + 7)) (hm : 0 ≤ σ 1 5 ∧ σ 1 5 ≤ 9) (hh : 0 ≤ σ 1 6 ∧ σ 1 6 ≤ 9) (hbr : 0 ≤ σ 1 7 ∧ σ 1 7 ≤ 9)
    (hrows : ∀ k : Nat, k < n → σ (w + 3) k = rwF σ o b k) (hlen : rwF σ o b n ≤ (ln l (w + 4) : Int))
    (hah : σ 4 j ≠ -1 → ∀ i q : Nat, (EP TE (2 * 3 ^ H) (σ 4 j + b))[i]? = some q → σ (w + 4) (rwF σ o b j + i) = f q ∧ 0 ≤ f q ∧ f q ≤ 1000000)
    (hpv : -1 ≤ pv ∧ pv < 2 * ((3 ^ H : Nat) : Int)) (hpv0 : j = 0 → pv = -1) (hla : 0 < j → σ (w + 2) ((j : Int) - 1) = cdZ ((3 ^ H : Nat) : Int) pv) :
    Fu g zX4_chooseAt 0 0 [.ref w, .ref 1, .ref o, iv (j : Int), iv b] σ l (fun τ l' => l' = l ∧ (∀ a, a ≠ w → a ≠ w + 1 → a ≠ w + 2 → τ a = σ a) ∧ τ w 0 = (if σ 4 j ≠ -1 ∧ wpN (σ 4) (fun _ => f) (coD (σ 1 5) (σ 1 6) (σ 1 7) H) (fun k => EP TE (2 * 3 ^ H) (σ 4 k + b)) j pv = -1 then -1 else σ w 0 + chg (coD (σ 1 5) (σ 1 6) (σ 1 7) H) pv (wpN (σ 4) (fun _ => f) (coD (σ 1 5) (σ 1 6) (σ 1 7) H) (fun k => EP TE (2 * 3 ^ H) (σ 4 k + b)) j pv)) ∧ (∀ p, p ≠ (j : Int) → τ (w + 1) p = σ (w + 1) p ∧ τ (w + 2) p = σ (w + 2) p) ∧ (¬ (σ 4 j ≠ -1 ∧ wpN (σ 4) (fun _ => f) (coD (σ 1 5) (σ 1 6) (σ 1 7) H) (fun k => EP TE (2 * 3 ^ H) (σ 4 k + b)) j pv = -1) → τ (w + 1) j = wpN (σ 4) (fun _ => f) (coD (σ 1 5) (σ 1 6) (σ 1 7) H) (fun k => EP TE (2 * 3 ^ H) (σ 4 k + b)) j pv ∧ τ (w + 2) j = cdZ ((3 ^ H : Nat) : Int) (wpN (σ 4) (fun _ => f) (coD (σ 1 5) (σ 1 6) (σ 1 7) H) (fun k => EP TE (2 * 3 ^ H) (σ 4 k + b)) j pv))) := by
  have hwo := hw.2.1
  have hso := hs.2.1
  have hp0 := p3_pos H
  have hple := p3_le hH7
  have hNe : ((2 * 3 ^ H : Nat) : Int) = 2 * ((3 ^ H : Nat) : Int) := by push_cast; rfl
  have hNn : 2 * 3 ^ H ≤ 4374 := by omega
  have htj := ht j (by omega) (by omega)
  refine Fn.of [some (.ref w), some (.ref 1), some (.ref o), some (iv (j : Int)), some (iv b), none, none] rfl (by decide) (Nat.le_of_ble_eq_true rfl) rfl ?_
  -- a note
  have tail : σ 4 j ≠ -1 → ∀ la, la = cdZ ((3 ^ H : Nat) : Int) pv → FW g zX4_chooseAt 0 0 (fun q τ l' => q = .inl none ∧ l' = l ∧ (∀ a, a ≠ w → a ≠ w + 1 → a ≠ w + 2 → τ a = σ a) ∧ τ w 0 = (if σ 4 j ≠ -1 ∧ wpN (σ 4) (fun _ => f) (coD (σ 1 5) (σ 1 6) (σ 1 7) H) (fun k => EP TE (2 * 3 ^ H) (σ 4 k + b)) j pv = -1 then -1 else σ w 0 + chg (coD (σ 1 5) (σ 1 6) (σ 1 7) H) pv (wpN (σ 4) (fun _ => f) (coD (σ 1 5) (σ 1 6) (σ 1 7) H) (fun k => EP TE (2 * 3 ^ H) (σ 4 k + b)) j pv)) ∧ (∀ p, p ≠ (j : Int) → τ (w + 1) p = σ (w + 1) p ∧ τ (w + 2) p = σ (w + 2) p) ∧ (¬ (σ 4 j ≠ -1 ∧ wpN (σ 4) (fun _ => f) (coD (σ 1 5) (σ 1 6) (σ 1 7) H) (fun k => EP TE (2 * 3 ^ H) (σ 4 k + b)) j pv = -1) → τ (w + 1) j = wpN (σ 4) (fun _ => f) (coD (σ 1 5) (σ 1 6) (σ 1 7) H) (fun k => EP TE (2 * 3 ^ H) (σ 4 k + b)) j pv ∧ τ (w + 2) j = cdZ ((3 ^ H : Nat) : Int) (wpN (σ 4) (fun _ => f) (coD (σ 1 5) (σ 1 6) (σ 1 7) H) (fun k => EP TE (2 * 3 ^ H) (σ 4 k + b)) j pv))) 47 [some (.ref w), some (.ref 1), some (.ref o), some (iv (j : Int)), some (iv b), some (iv la), none] [] σ l := by
    intro hj0 la hla2
    have hah1 := hah hj0
    obtain ⟨fA, hfA, hcA, hcA4, hfA0, hfA1, hqA⟩ := tone_of (l := l) hs hCh hNn (σ 4 j + b)
    have hwe : wpN (σ 4) (fun _ => f) (coD (σ 1 5) (σ 1 6) (σ 1 7) H) (fun k => EP TE (2 * 3 ^ H) (σ 4 k + b)) j pv = pkA (fun q => f q + (if pv = -1 then 0 else coD (σ 1 5) (σ 1 6) (σ 1 7) H pv q)) (EP TE (2 * 3 ^ H) (σ 4 j + b)) := by unfold wpN; rw [if_neg hj0]
    rw [hwe]
    have hcb : ∀ q : Int, -1000 ≤ (if pv = -1 then 0 else coD (σ 1 5) (σ 1 6) (σ 1 7) H pv q) := fun q => by
      have := coD_ge (H := H) (p := pv) (q := q) hm.1 hh.1 hbr.1
      split <;> omega
    have hnc : ∀ z : Nat, z < n → 0 ≤ nC (σ 4) (σ (o + 1)) b z ∧ nC (σ 4) (σ (o + 1)) b z ≤ 4374 := by
      intro z hz
      unfold nC
      split
      · omega
      · obtain ⟨_, _, a1, a2, _⟩ := tone_of (l := l) hs hCh hNn (σ 4 z + b)
        rw [a1]; omega
    have hmono : ∀ x y : Nat, x ≤ y → y ≤ n → rwF σ o b x ≤ rwF σ o b y := by
      intro x y hxy
      induction y with
      | zero => intro _; have : x = 0 := by omega
                subst this; exact Int.le_refl _
      | succ y ihy =>
        intro hy
        by_cases e : x = y + 1
        · rw [e]; exact Int.le_refl _
        · have a1 := ihy (by omega) (by omega)
          have a2 := hnc y (by omega)
          show _ ≤ frI (nC (σ 4) (σ (o + 1)) b) (y + 1)
          rw [frI_s]
          have : rwF σ o b y = frI (nC (σ 4) (σ (o + 1)) b) y := rfl
          omega
    have ecA : nC (σ 4) (σ (o + 1)) b j = ((EP TE (2 * 3 ^ H) (σ 4 j + b)).length : Int) := by unfold nC; rw [if_neg hj0, hcA]
    have hR0 := (frI_bd j (fun z hz => hnc z (by omega)))
    have hRs : rwF σ o b (j + 1) = rwF σ o b j + ((EP TE (2 * 3 ^ H) (σ 4 j + b)).length : Int) := by
      show frI (nC (σ 4) (σ (o + 1)) b) (j + 1) = _
      rw [frI_s, ecA]
    have hRn := hmono (j + 1) n (by omega) (Nat.le_refl _)
    have hRj : σ (w + 3) j = rwF σ o b j := hrows j hj
    have hRe : rwF σ o b j = frI (nC (σ 4) (σ (o + 1)) b) j := rfl
    have hEl : ∀ i q : Nat, (EP TE (2 * 3 ^ H) (σ 4 j + b))[i]? = some q → q < 2 * 3 ^ H := fun i q h => (EP_lt h).1
    generalize hLE : EP TE (2 * 3 ^ H) (σ 4 j + b) = LE at *
    have hgA : ∀ i : Nat, i < LE.length → fA + i < 2 * ((3 ^ H : Nat) : Int) ∧ σ (o + 6) (fA + i) = (LE.getD i 0 : Nat) ∧ σ (o + 7) (fA + i) = (cdP ((3 ^ H : Nat) : Int) (LE.getD i 0 : Nat) : Int) ∧ LE.getD i 0 < 2 * 3 ^ H := fun i hi => by
      have a1 := hqA i _ (getD_some hi)
      exact ⟨by omega, a1.2.1, a1.2.2, hEl _ _ (getD_some hi)⟩
    have hpc := pk_congr LE.length (f := pkf (σ 1 5) (σ 1 6) (σ 1 7) (σ (w + 4)) (σ (w + 3) j) la (fun i => cdP ((3 ^ H : Nat) : Int) (LE.getD i 0 : Nat))) (g := fun i => (fun q : Int => f q + (if pv = -1 then 0 else coD (σ 1 5) (σ 1 6) (σ 1 7) H pv q)) (LE.getD i 0 : Nat)) (fun i hi => by
      unfold pkf
      rw [hRj, (hah1 i _ (getD_some hi)).1, hla2]
      dsimp only
      by_cases c0 : pv = -1
      · unfold cdZ
        rw [if_pos c0, if_pos rfl, if_pos c0]
      · rw [if_neg (cdZ_ne c0), if_neg c0]
        unfold cdZ
        rw [if_neg c0, Int.toNat_natCast, prC_coD hH7 (by omega) hpv.2 (by omega) (by have := (hgA i hi).2.2.2; omega)])
    have hpr := pk_rng (fun i => (fun q : Int => f q + (if pv = -1 then 0 else coD (σ 1 5) (σ 1 6) (σ 1 7) H pv q)) (LE.getD i 0 : Nat)) LE.length (fun i hi => by
      have a1 := hah1 i _ (getD_some hi)
      have a2 := hcb (LE.getD i 0 : Nat)
      dsimp only
      by_cases c0 : pv = -1
      · rw [if_pos c0]; omega
      · rw [if_neg c0] at a2 ⊢
        have a3 := prC_rng (c := cdP ((3 ^ H : Nat) : Int) pv) (d := cdP ((3 ^ H : Nat) : Int) (LE.getD i 0 : Nat)) hm hh hbr
        rw [prC_coD hH7 (by omega) hpv.2 (by omega) (by have := (hgA i hi).2.2.2; omega)] at a3
        omega)
    unfold pkA
    refine g_aload0 dX4_chooseAt_47 ?_
    refine g_aload1 dX4_chooseAt_48 ?_
    refine g_aload2 dX4_chooseAt_49 ?_
    refine g_iload3 dX4_chooseAt_50 ?_
    refine g_aload1 dX4_chooseAt_51 ?_
    refine f_getr (r := 4) rfl (by decide) rfl rfl fl_X4_55 dX4_chooseAt_52 ?_
    refine g_iload3 dX4_chooseAt_55 ?_
    refine f_cS2w (atI rfl (by decide) (by omega) (by show (j : Int) < (40 : Nat); omega)) oY_X5_at oT_X5_at lk_X4_58 rfl dX4_chooseAt_56 rfl (Or.inl rfl) ?_
    refine g_iload4 dX4_chooseAt_59 ?_
    refine g_iadd dX4_chooseAt_61 ?_
    refine g_iload5 dX4_chooseAt_62 ?_
    refine f_cV5w (pick_ok (cnt := LE.length) (fs := fA) (cd := fun i => cdP ((3 ^ H : Nat) : Int) (LE.getD i 0 : Nat)) hw hs (by omega) ⟨by show -2147483648 ≤ σ 4 j + b; omega, by show σ 4 j + b ≤ 2147483647; omega⟩ hcA hcA4 hfA ⟨hfA0, hfA1⟩ (by rw [hla2]; exact cdZ_ok _ _) (by rw [hRj]; omega) hm hh hbr (fun i hi => ⟨by have := hgA i hi; omega, (hgA i hi).2.2.1, cdP_lt _ _⟩) (fun i hi => by rw [hRj]; have a1 := hah1 i _ (getD_some hi); exact ⟨by omega, by omega, by omega⟩)) hw.1 (hw.lt 0 (by decide)) rfl oY_X4_pick oI_X4_pick lk_X4_125 rfl dX4_chooseAt_64 rfl (Or.inl rfl) ?_
    rw [hpc]
    generalize hK : (pk (fun i => (fun q : Int => f q + (if pv = -1 then 0 else coD (σ 1 5) (σ 1 6) (σ 1 7) H pv q)) (LE.getD i 0 : Nat)) LE.length).1 = K at *
    by_cases hK1 : K = -1
    · simp only [if_pos hK1]
      refine g_istore6 dX4_chooseAt_67 rfl (by decide) ?_
      refine g_iload6 dX4_chooseAt_69 ?_
      refine g_iconst dX4_chooseAt_71 ?_
      refine g_icmp_ne ⟨by omega, by omega⟩ ⟨by omega, by omega⟩ (tgt := 81) dX4_chooseAt_72 rfl (fun h72 => absurd h72 (by omega)) (fun h72 => ?_)
      refine g_aload0 dX4_chooseAt_75 ?_
      refine g_iconst dX4_chooseAt_76 ?_
      refine f_puti (J := 0) hw.1 (hw.lt 0 (by decide)) rfl rfl fl_X4_9 rfl (fun _ _ _ h => by cases h; rfl) dX4_chooseAt_77 ?_
      refine g_return rfl dX4_chooseAt_80 ?_
      refine Fu.ret ⟨rfl, fun a a0 a1 a2 => by rw [up_n a0], ?_, fun p hp => ⟨by rw [up_n (by omega)], by rw [up_n (by omega)]⟩, fun z => ?_⟩
      · rw [if_pos ⟨hj0, trivial⟩, up_eq]
      · exact absurd ⟨hj0, trivial⟩ z
    · simp only [if_neg hK1]
      obtain ⟨i, hi⟩ : ∃ i : Nat, K = (i : Int) := ⟨K.toNat, by omega⟩
      subst hi
      rw [Int.toNat_natCast]
      have hil : i < LE.length := by omega
      have hq4 := hgA i hil
      generalize hqd : LE.getD i 0 = q at *
      have hq0 : ((q : Nat) : Int) ≠ -1 := by omega
      refine g_istore6 dX4_chooseAt_67 rfl (by decide) ?_
      refine g_iload6 dX4_chooseAt_69 ?_
      refine g_iconst dX4_chooseAt_71 ?_
      refine g_icmp_ne ⟨by omega, by omega⟩ ⟨by omega, by omega⟩ (tgt := 81) dX4_chooseAt_72 rfl (fun h72 => ?_) (fun h72 => absurd h72 (by omega))
      refine g_aload0 dX4_chooseAt_81 ?_
      refine f_getr (r := w + 1) hw.1 (hw.lt 0 (by decide)) rfl rfl fl_X4_15 dX4_chooseAt_82 ?_
      refine g_iload3 dX4_chooseAt_85 ?_
      refine g_aload2 dX4_chooseAt_86 ?_
      refine f_getr (r := o + 6) hs.1 (hs.lt 0 (by decide)) rfl rfl fl_X4_99 dX4_chooseAt_87 ?_
      refine g_iload6 dX4_chooseAt_90 ?_
      refine f_cS2w (atI hs.k6 (hs.lt 6 (by decide)) (by omega) (by omega)) oY_X5_at oT_X5_at lk_X4_58 rfl dX4_chooseAt_92 rfl (Or.inl rfl) ?_
      rw [hq4.2.1]
      refine f_cS3d (putI hw.k1 (hw.lt 1 (by decide)) (by omega) (by rw [hw.n1]; omega)) oY_X5_put oT_X5_put lk_X4_51 rfl dX4_chooseAt_95 rfl (Or.inl rfl) ?_
      refine g_aload0 dX4_chooseAt_98 ?_
      refine f_getr (r := w + 2) hw.1 (hw.lt 0 (by decide)) rfl rfl fl_X4_19 dX4_chooseAt_99 ?_
      refine g_iload3 dX4_chooseAt_102 ?_
      refine g_aload2 dX4_chooseAt_103 ?_
      refine f_getr (r := o + 7) hs.1 (hs.lt 0 (by decide)) rfl rfl fl_X4_91 dX4_chooseAt_104 ?_
      refine g_iload6 dX4_chooseAt_107 ?_
      refine f_cS2w (atI hs.k7 (hs.lt 7 (by decide)) (by omega) (by omega)) oY_X5_at oT_X5_at lk_X4_58 rfl dX4_chooseAt_109 rfl (Or.inl rfl) ?_
      rw [up_n (by omega), hq4.2.2.1]
      refine f_cS3d (putI hw.k2 (hw.lt 2 (by decide)) (by omega) (by rw [hw.n2]; omega)) oY_X5_put oT_X5_put lk_X4_51 rfl dX4_chooseAt_112 rfl (Or.inl rfl) ?_
      refine g_aload0 dX4_chooseAt_115 ?_
      refine g_dup rfl dX4_chooseAt_116 ?_
      refine f_geti (J := 0) hw.1 (hw.lt 0 (by decide)) rfl rfl fl_X4_9 dX4_chooseAt_117 ?_
      rw [up_n (by omega), up_n (by omega)]
      refine g_aload0 dX4_chooseAt_120 ?_
      refine g_aload1 dX4_chooseAt_121 ?_
      refine g_iload3 dX4_chooseAt_122 ?_
      refine f_cV2w (priceTo_ok hw (by omega) (fun z => by rw [up_ne (by omega), up_n (by omega), hla (by omega)]; exact cdZ_ok _ _) (by rw [up_eq]; exact ⟨by omega, by have := cdP_lt ((3 ^ H : Nat) : Int) q; omega⟩)) hw.1 (hw.lt 0 (by decide)) rfl oY_X4_priceTo oI_X4_priceTo lk_X4_129 rfl dX4_chooseAt_123 rfl (Or.inl rfl) ?_
      rw [show up (up σ (w + 1) j q) (w + 2) j (cdP ((3 ^ H : Nat) : Int) q : Int) 1 = σ 1 from by rw [up_n (by omega), up_n (by omega)], show ptF (σ 1 5) (σ 1 6) (σ 1 7) (up (up σ (w + 1) j q) (w + 2) j (cdP ((3 ^ H : Nat) : Int) q : Int) (w + 2)) j = chg (coD (σ 1 5) (σ 1 6) (σ 1 7) H) pv q from by
        unfold ptF chg
        by_cases c0 : j = 0
        · rw [if_neg (fun z => by omega), if_pos (Or.inl (hpv0 c0))]
        · rw [up_eq, up_ne (by omega), up_n (by omega), hla (by omega)]
          by_cases c1 : pv = -1
          · rw [if_pos (Or.inl c1), if_neg (fun z => z.2.1 (by unfold cdZ; rw [if_pos c1]))]
          · rw [if_pos ⟨by omega, cdZ_ne c1, by omega⟩, if_neg (fun z => z.elim c1 hq0)]
            unfold cdZ
            rw [if_neg c1, Int.toNat_natCast, Int.toNat_natCast, prC_coD hH7 (by omega) hpv.2 (by omega) (by omega)]]
      refine g_iadd dX4_chooseAt_126 ?_
      refine f_puti (J := 0) hw.1 (hw.lt 0 (by decide)) rfl rfl fl_X4_9 rfl (fun _ _ _ h => by cases h; rfl) dX4_chooseAt_127 ?_
      refine g_return rfl dX4_chooseAt_130 ?_
      refine Fu.ret ⟨rfl, fun a a0 a1 a2 => by rw [up_n a0, up_n a2, up_n a1], ?_, fun p hp => ⟨by rw [up_n (by omega), up_n (by omega), up_ne (by omega)], by rw [up_n (by omega), up_ne (by omega), up_n (by omega)]⟩, fun z => ⟨by rw [up_n (by omega), up_n (by omega), up_eq], ?_⟩⟩
      · rw [up_eq, if_neg (fun z => hq0 z.2)]
      · rw [up_n (by omega), up_eq]
        unfold cdZ
        rw [if_neg hq0]
  refine g_aload1 dX4_chooseAt_0 ?_
  refine g_iload3 dX4_chooseAt_1 ?_
  refine f_cV1w (isRest_ok isSt1 ⟨by omega, by omega⟩ ⟨by show -2147483648 ≤ σ 4 j; omega, by show σ 4 j ≤ 2147483647; omega⟩) rfl (by decide) rfl oY_X3_isRest oI_X3_isRest lk_X4_40 rfl dX4_chooseAt_2 rfl (Or.inl rfl) ?_
  rw [show bv (σ (1 + 3) (j : Int) = -1) = bv (σ 4 (j : Int) = -1) from rfl]
  refine g_ifeqB (tgt := 27) dX4_chooseAt_5 rfl (fun h5 => ?_) (fun h5 => ?_)
  · refine g_iload3 dX4_chooseAt_27 ?_
    refine g_if_ne ⟨by omega, by omega⟩ (tgt := 35) dX4_chooseAt_28 rfl (fun h28 => ?_) (fun h28 => ?_)
    · refine g_aload0 dX4_chooseAt_35 ?_
      refine f_getr (r := w + 2) hw.1 (hw.lt 0 (by decide)) rfl rfl fl_X4_19 dX4_chooseAt_36 ?_
      refine g_iload3 dX4_chooseAt_39 ?_
      refine g_iconst dX4_chooseAt_40 ?_
      refine g_isub dX4_chooseAt_41 ?_
      refine f_cS2w (atI hw.k2 (hw.lt 2 (by decide)) (by omega) (by rw [hw.n2]; omega)) oY_X5_at oT_X5_at lk_X4_58 rfl dX4_chooseAt_42 rfl (Or.inl rfl) ?_
      refine g_istore5 dX4_chooseAt_45 rfl (by decide) ?_
      first
        | exact tail h5 _ (by rw [hpv0 (by omega)]; rfl)
        | exact tail h5 _ (hla (by omega))
    · refine g_iconst dX4_chooseAt_31 ?_
      refine g_goto (tgt := 45) dX4_chooseAt_32 rfl ?_
      refine g_istore5 dX4_chooseAt_45 rfl (by decide) ?_
      first
        | exact tail h5 _ (by rw [hpv0 (by omega)]; rfl)
        | exact tail h5 _ (hla (by omega))
  · refine g_aload0 dX4_chooseAt_8 ?_
    refine f_getr (r := w + 1) hw.1 (hw.lt 0 (by decide)) rfl rfl fl_X4_15 dX4_chooseAt_9 ?_
    refine g_iload3 dX4_chooseAt_12 ?_
    refine g_iconst dX4_chooseAt_13 ?_
    refine f_cS3d (putI hw.k1 (hw.lt 1 (by decide)) (by omega) (by rw [hw.n1]; omega)) oY_X5_put oT_X5_put lk_X4_51 rfl dX4_chooseAt_14 rfl (Or.inl rfl) ?_
    refine g_aload0 dX4_chooseAt_17 ?_
    refine f_getr (r := w + 2) hw.1 (hw.lt 0 (by decide)) rfl rfl fl_X4_19 dX4_chooseAt_18 ?_
    refine g_iload3 dX4_chooseAt_21 ?_
    refine g_iconst dX4_chooseAt_22 ?_
    refine f_cS3d (putI hw.k2 (hw.lt 2 (by decide)) (by omega) (by rw [hw.n2]; omega)) oY_X5_put oT_X5_put lk_X4_51 rfl dX4_chooseAt_23 rfl (Or.inl rfl) ?_
    refine g_return rfl dX4_chooseAt_26 ?_
    have hwe : wpN (σ 4) (fun _ => f) (coD (σ 1 5) (σ 1 6) (σ 1 7) H) (fun k => EP TE (2 * 3 ^ H) (σ 4 k + b)) j pv = -1 := by unfold wpN; rw [if_pos h5]
    refine Fu.ret ⟨rfl, fun a a0 a1 a2 => by rw [up_n a2, up_n a1], ?_, fun p hp => ⟨by rw [up_n (by omega), up_ne (by omega)], by rw [up_ne (by omega), up_n (by omega)]⟩, fun z => ⟨by rw [up_n (by omega), up_eq, hwe], by rw [up_eq, hwe]; rfl⟩⟩
    rw [if_neg (fun z => z.1 h5), up_n (by omega), up_n (by omega), hwe]
    unfold chg
    rw [if_pos (Or.inr rfl), Int.add_zero]
end C41
