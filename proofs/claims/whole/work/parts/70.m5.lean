/-! The model: reckons -/
section C70
variable {g : gT} {σ : sT} {l : Nat → Nat}
theorem lkF_iff {Q : Nat → Bool} : ∀ f k : Nat, lkF Q f k = -1 ↔ ∀ i, k ≤ i → i < k + f → Q i = false := by
  intro f
  induction f with
  | zero => intro k; exact ⟨fun _ i a b => by omega, fun _ => rfl⟩
  | succ f ih =>
    intro k
    unfold lkF
    by_cases c : Q k = true
    · rw [if_pos c]
      constructor
      · intro z; omega
      · intro z; rw [z k (by omega) (by omega)] at c; cases c
    · rw [if_neg c, ih]
      constructor
      · intro z i a b
        by_cases e : i = k
        · subst e; exact Bool.eq_false_iff.mpr c
        · exact z i (by omega) (by omega)
      · intro z i a b; exact z i (by omega) (by omega)
/-- all notes from one on have plays -/
def lkP (s TE : Int → Int) (b : Int) (j : Nat) : Prop := ∀ k, j ≤ k → k < wN s → wTu s k = -1 ∨ (EP TE (2 * 3 ^ wH s) (wTu s k + b)).length ≠ 0
theorem lk_ok {s TE : Int → Int} {b : Int} {j : Nat} (hj : j ≤ wN s) : wLk s TE b j = -1 ↔ lkP s TE b j := by
  unfold wLk lkP
  rw [lkF_iff]
  constructor
  · intro z k a b2
    have := z k a (by omega)
    unfold wLkQ at this
    rw [Bool.and_eq_false_iff, decide_eq_false_iff_not, decide_eq_false_iff_not] at this
    rcases this with h | h
    · exact Or.inl (Classical.not_not.mp h)
    · exact Or.inr h
  · intro z k a b2
    unfold wLkQ
    rw [Bool.and_eq_false_iff, decide_eq_false_iff_not, decide_eq_false_iff_not]
    rcases z k a (by omega) with h | h
    · exact Or.inl (fun y => y h)
    · exact Or.inr h
theorem f0N_val {pl ah : Nat → Int} : ∀ n : Nat, (∀ i j, i < n → j < n → pl i = pl j → i = j) → (∀ i, i < n → f0N pl ah n (pl i) = ah i) ∧ ∀ q, (∀ i, i < n → q ≠ pl i) → f0N pl ah n q = 1000000 := by
  intro n
  induction n with
  | zero => intro _; exact ⟨fun i hi => by omega, fun q _ => rfl⟩
  | succ n ih =>
    intro hinj
    have h := ih (fun i j a b => hinj i j (by omega) (by omega))
    refine ⟨fun i hi => ?_, fun q hq => ?_⟩
    · by_cases e : i = n
      · subst e; exact if_pos rfl
      · have hne : pl i ≠ pl n := fun z => e (hinj i n hi (by omega) z)
        exact (if_neg hne).trans (h.1 i (by omega))
    · exact (if_neg (hq n (by omega))).trans (h.2 q (fun i hi => hq i (by omega)))
theorem f0_EL {TE A : Int → Int} {t : Int} {N p : Nat} (hp : p < N) : f0N (fun i => ((EL TE t N).getD i 0 : Nat)) (fun i => A ((EL TE t N).getD i 0 : Nat)) (EL TE t N).length p = if TE p = t then A p else 1000000 := by
  have hv := f0N_val (pl := fun i => ((EL TE t N).getD i 0 : Nat)) (ah := fun i => A ((EL TE t N).getD i 0 : Nat)) (EL TE t N).length (fun i j hi hj h => by
    have h1 := getD_some hi
    have h2 := getD_some hj
    have e : (EL TE t N).getD i 0 = (EL TE t N).getD j 0 := by
      have : (((EL TE t N).getD i 0 : Nat) : Int) = (((EL TE t N).getD j 0 : Nat) : Int) := h
      omega
    have p1 := EL_pos h1
    have p2 := EL_pos h2
    rw [e] at p1
    omega)
  by_cases c : TE p = t
  · rw [if_pos c]
    have hg := EL_get (f := TE) (t := t) hp c
    have hlt := (List.getElem?_eq_some_iff.mp hg).1
    have hgd : (EL TE t N).getD (cnI TE t p).toNat 0 = p := by rw [List.getD_eq_getElem?_getD, hg]; rfl
    have h1 := hv.1 _ hlt
    rw [hgd] at h1
    exact h1
  · rw [if_neg c]
    exact hv.2 p (fun i hi z => by
      have h1 := (EL_lt (getD_some hi)).2.1
      have z2 : (p : Int) = (((EL TE t N).getD i 0 : Nat) : Int) := z
      rw [← z2] at h1
      exact c h1)
abbrev wAq (s TE : Int → Int) (b : Int) : Nat → Int → Int := wA (wCo s) (wE TE (wTu s) (wH s) b) (wTu s) (wN s)
/-- the rows from one note on -/
def RK (τ : sT) (s TE : Int → Int) (b : Int) (j : Nat) : Prop := ∀ k : Nat, j ≤ k → k < wN s → wTu s k ≠ -1 → ∀ p, 0 ≤ p → p < 2 * ((3 ^ wH s : Nat) : Int) → τ 102 (4374 * (k : Int) + p) = if TE p = wTu s k + b then wAq s TE b k p else 1000000
theorem wAq_r {B : Int} {s TE : Int → Int} {b : Int} (ho : SOK B s) (k : Nat) (p : Int) : 0 ≤ wAq s TE b k p ∧ wAq s TE b k p ≤ 1000000 := wA_rng (fun p q => (wCo_rng ho p q).1) _ _ _
/-- what spreads makes of a row -/
theorem row_sp {B : Int} {s TE : Int → Int} {b : Int} (ho : SOK B s) {k : Nat} (hk : k + 1 < wN s) (ht : wTu s ((k + 1 : Nat) : Int) ≠ -1) (hb : 0 ≤ wTu s ((k + 1 : Nat) : Int) + b ∧ wTu s ((k + 1 : Nat) : Int) + b < 25) {p : Int} (h0 : 0 ≤ p) (h1 : p < 2 * ((3 ^ wH s : Nat) : Int)) :
    spB (s 8) ((3 ^ wH s : Nat) : Int) (sps (s 6) (s 7) (f0N (fun i => ((EL TE (wTu s ((k + 1 : Nat) : Int) + b) (2 * 3 ^ wH s)).getD i 0 : Nat)) (fun i => wAq s TE b (k + 1) ((EL TE (wTu s ((k + 1 : Nat) : Int) + b) (2 * 3 ^ wH s)).getD i 0 : Nat)) (EL TE (wTu s ((k + 1 : Nat) : Int) + b) (2 * 3 ^ wH s)).length) (wH s)) p = wAq s TE b k p := by
  have hm := ho.move
  have hh := ho.half
  have hbr := ho.breath
  have hE : wE TE (wTu s) (wH s) b (k + 1) = EL TE (wTu s ((k + 1 : Nat) : Int) + b) (2 * 3 ^ wH s) := by
    show EP TE (2 * 3 ^ wH s) (wTu s ((k + 1 : Nat) : Int) + b) = _
    unfold EP
    rw [if_pos hb]
  have h9 := hoF_mn (m := s 6) (h := s 7) (b := s 8) (H := wH s) (cB := (EL TE (wTu s ((k + 1 : Nat) : Int) + b) (2 * 3 ^ wH s)).length) (plB := fun i => ((EL TE (wTu s ((k + 1 : Nat) : Int) + b) (2 * 3 ^ wH s)).getD i 0 : Nat)) (ahB := fun i => wAq s TE b (k + 1) ((EL TE (wTu s ((k + 1 : Nat) : Int) + b) (2 * 3 ^ wH s)).getD i 0 : Nat)) (by omega) (by omega) (by omega) (fun i hi => by
      have := (EL_lt (getD_some hi)).1
      omega) (fun i j hi hj h => by
      have h1 := getD_some hi
      have h2 := getD_some hj
      have e : (EL TE (wTu s ((k + 1 : Nat) : Int) + b) (2 * 3 ^ wH s)).getD i 0 = (EL TE (wTu s ((k + 1 : Nat) : Int) + b) (2 * 3 ^ wH s)).getD j 0 := by omega
      have p1 := EL_pos h1
      have p2 := EL_pos h2
      rw [e] at p1
      omega) (fun i hi => (wAq_r ho _ _).2) h0 h1
  unfold hoF at h9
  rw [h9]
  show _ = wA (wCo s) (wE TE (wTu s) (wH s) b) (wTu s) (wN s) k p
  rw [wA_s, if_pos ⟨hk, by rw [show (k : Int) + 1 = ((k + 1 : Nat) : Int) from by push_cast; rfl]; exact ht⟩, hE]
  rfl
theorem reckons_m {B : Int} {s : Int → Int} (ho : SOK B s) (hs : σ 93 = s) (hL : LdP σ s) {fr : Nat} {b m mc : Int} (hfr : fr ≤ wN s) (hb : -12 ≤ b ∧ b ≤ 12) (hm : R32 m) (hmc : R32 mc) (hg : hgB s b (wN s) = true) : Fn g zX6_reckons 0 0 [.ref 92, iv (fr : Int), iv b, iv m, iv mc] σ l (fun o τ l' => l' = l ∧ o = .inl (some (bv (wLk s (wTE s m mc) b fr = -1))) ∧ (∀ a, a ≠ 102 → a ≠ 103 → τ a = σ a) ∧ (wLk s (wTE s m mc) b fr = -1 → RK τ s (wTE s m mc) b fr)) := by
  have hI := ho.nI
  have hn := ho.n40
  have hp3 := p3_le ho.h7
  have hp0 := p3_pos (wH s)
  have hNe : ((2 * 3 ^ wH s : Nat) : Int) = 2 * ((3 ^ wH s : Nat) : Int) := by push_cast; rfl
  refine Fn.of [some (.ref 92), some (iv (fr : Int)), some (iv b), some (iv m), some (iv mc), none, none, none, none, none, none] rfl (by decide) (Nat.le_of_ble_eq_true rfl) rfl ?_
  have ex1 : ∀ (τ : sT) (nt : Int) (u8 u9 u10 : Option Value), (∀ a, a ≠ 102 → a ≠ 103 → τ a = σ a) → lkP s (wTE s m mc) b fr → RK τ s (wTE s m mc) b fr → FW g zX6_reckons 0 0 (fun o τ l' => l' = l ∧ o = .inl (some (bv (wLk s (wTE s m mc) b fr = -1))) ∧ (∀ a, a ≠ 102 → a ≠ 103 → τ a = σ a) ∧ (wLk s (wTE s m mc) b fr = -1 → RK τ s (wTE s m mc) b fr)) 204 [some (.ref 92), some (iv (fr : Int)), some (iv b), some (iv m), some (iv mc), some (iv (2 * ((3 ^ wH s : Nat) : Int))), some (iv 1), some (iv nt), u8, u9, u10] [] τ l := by
    intro τ nt u8 u9 u10 hf hok hrk
    refine g_iload6 dX6_reckons_204 ?_
    refine g_iretB (Or.inr rfl) rfl dX6_reckons_206 ?_
    exact fn_ret ⟨rfl, by rw [bvT ((lk_ok hfr).mpr hok)], hf, fun _ => hrk⟩
  have ex0 : ∀ (τ : sT) (nt : Int) (u8 u9 u10 : Option Value), (-1 ≤ nt ∧ nt ≤ 40) → (∀ a, a ≠ 102 → a ≠ 103 → τ a = σ a) → ¬ lkP s (wTE s m mc) b fr → FW g zX6_reckons 0 0 (fun o τ l' => l' = l ∧ o = .inl (some (bv (wLk s (wTE s m mc) b fr = -1))) ∧ (∀ a, a ≠ 102 → a ≠ 103 → τ a = σ a) ∧ (wLk s (wTE s m mc) b fr = -1 → RK τ s (wTE s m mc) b fr)) 20 [some (.ref 92), some (iv (fr : Int)), some (iv b), some (iv m), some (iv mc), some (iv (2 * ((3 ^ wH s : Nat) : Int))), some (iv 0), some (iv nt), u8, u9, u10] [] τ l := by
    intro τ nt u8 u9 u10 hnt hf hok
    refine g_iload7 dX6_reckons_20 ?_
    refine g_iload1 dX6_reckons_22 ?_
    refine g_icmp_lt ⟨by omega, by omega⟩ ⟨by omega, by omega⟩ (tgt := 204) dX6_reckons_23 rfl (fun h23 => ?_) (fun h23 => ?_)
    · refine g_iload6 dX6_reckons_204 ?_
      refine g_iretB (Or.inl rfl) rfl dX6_reckons_206 ?_
      exact fn_ret ⟨rfl, by rw [bvF (fun z => hok ((lk_ok hfr).mp z))], hf, fun z => absurd ((lk_ok hfr).mp z) hok⟩
    · refine g_iload6 dX6_reckons_26 ?_
      refine g_if_eq ⟨by decide, by decide⟩ (tgt := 204) dX6_reckons_28 rfl (fun h28 => ?_) (fun h28 => absurd h28 (by decide))
      refine g_iload6 dX6_reckons_204 ?_
      refine g_iretB (Or.inl rfl) rfl dX6_reckons_206 ?_
      exact fn_ret ⟨rfl, by rw [bvF (fun z => hok ((lk_ok hfr).mp z))], hf, fun z => absurd ((lk_ok hfr).mp z) hok⟩
  have main : ∀ j : Nat, j ≤ wN s → fr ≤ j → lkP s (wTE s m mc) b j → ∀ (τ : sT) (nt : Int) (u8 u9 u10 : Option Value), nt = (j : Int) - 1 → (∀ a, a ≠ 102 → a ≠ 103 → τ a = σ a) → RK τ s (wTE s m mc) b j → FW g zX6_reckons 0 0 (fun o τ l' => l' = l ∧ o = .inl (some (bv (wLk s (wTE s m mc) b fr = -1))) ∧ (∀ a, a ≠ 102 → a ≠ 103 → τ a = σ a) ∧ (wLk s (wTE s m mc) b fr = -1 → RK τ s (wTE s m mc) b fr)) 20 [some (.ref 92), some (iv (fr : Int)), some (iv b), some (iv m), some (iv mc), some (iv (2 * ((3 ^ wH s : Nat) : Int))), some (iv 1), some (iv nt), u8, u9, u10] [] τ l := by
    intro j
    induction j with
    | zero =>
      intro hj hfj hok τ nt u8 u9 u10 hnt hf hrk
      have hf0 : fr = 0 := by omega
      refine g_iload7 dX6_reckons_20 ?_
      refine g_iload1 dX6_reckons_22 ?_
      refine g_icmp_lt ⟨by omega, by omega⟩ ⟨by omega, by omega⟩ (tgt := 204) dX6_reckons_23 rfl (fun h23 => ?_) (fun h23 => absurd h23 (by omega))
      exact ex1 _ _ _ _ _ hf (by rw [hf0]; exact hok) (by rw [hf0]; exact hrk)
    | succ j ih =>
      intro hj hfj hok τ nt u8 u9 u10 hnt hf hrk
      have hnt2 : nt = (j : Int) := by omega
      subst hnt2
      have hsτ : τ 93 = s := (hf 93 (by decide) (by decide)).trans hs
      have hnoted := isNoted_m (g := g) (l := l) (σ := τ) ho hsτ (k := j) (by omega)
      refine g_iload7 dX6_reckons_20 ?_
      refine g_iload1 dX6_reckons_22 ?_
      refine g_icmp_lt ⟨by omega, by omega⟩ ⟨by omega, by omega⟩ (tgt := 204) dX6_reckons_23 rfl (fun h23 => ?_) (fun h23 => ?_)
      · have hf0 : fr = j + 1 := by omega
        exact ex1 _ _ _ _ _ hf (by rw [hf0]; exact hok) (by rw [hf0]; exact hrk)
      · refine g_iload6 dX6_reckons_26 ?_
        refine g_if_eq ⟨by decide, by decide⟩ (tgt := 204) dX6_reckons_28 rfl (fun h28 => absurd h28 (by decide)) (fun h28 => ?_)
        refine g_aload0 dX6_reckons_31 ?_
        refine g_iload7 dX6_reckons_32 ?_
        refine f_cV1w (hnoted) rfl (by decide) rfl oY_X6_isNoted oI_X6_isNoted lk_X6_152 rfl dX6_reckons_34 rfl (Or.inl rfl) ?_
        refine g_ifneB (tgt := 43) dX6_reckons_37 rfl (fun h37 => ?_) (fun h37 => ?_)
        · have hno : wTu s j ≠ -1 := h37.2
          have htj := ho.tune j (by omega) (by omega)
          have hgj := (hgB_at (k := j) (by omega) hg).resolve_left hno
          obtain ⟨t, ht⟩ : ∃ t, t = wTu s j + b := ⟨_, rfl⟩
          rw [← ht] at hgj
          have fin : ∀ (ρ : sT) (go : Int) (u9 u10 : Option Value) (can : Int), (∀ a, a ≠ 103 → ρ a = τ a) → (∀ p, 0 ≤ p → p < (2 * ((3 ^ wH s : Nat) : Int)) → ρ 103 p = wAq s (wTE s m mc) b j p) → FW g zX6_reckons 0 0 (fun o τ l' => l' = l ∧ o = .inl (some (bv (wLk s (wTE s m mc) b fr = -1))) ∧ (∀ a, a ≠ 102 → a ≠ 103 → τ a = σ a) ∧ (wLk s (wTE s m mc) b fr = -1 → RK τ s (wTE s m mc) b fr)) 112 [some (.ref 92), some (iv (fr : Int)), some (iv b), some (iv m), some (iv mc), some (iv (2 * ((3 ^ wH s : Nat) : Int))), some (iv can), some (iv (j : Int)), some (iv go), u9, u10] [] ρ l := by
            intro ρ go u9 u10 can hρ hρv
            have hLρ : LdP ρ s := ⟨fun k a b => by rw [hρ 98 (by decide), hf 98 (by decide) (by decide)]; exact hL.1 k a b, fun p a b => by rw [hρ 99 (by decide), hρ 100 (by decide), hρ 101 (by decide), hf 99 (by decide) (by decide), hf 100 (by decide) (by decide), hf 101 (by decide) (by decide)]; exact hL.2 p a b⟩
            have hsρ : ρ 93 = s := (hρ 93 (by decide)).trans hsτ
            have loop : ∀ q : Nat, q ≤ 2 * 3 ^ wH s → ∀ (i can : Int) (u10 : Option Value) (ρ2 : sT), i = (q : Int) → can = (if cnI (wTE s m mc) t q = 0 then 0 else 1) → (∀ a, a ≠ 102 → ρ2 a = ρ a) → (∀ x, x < 4374 * (j : Int) ∨ 4374 * (j : Int) + (q : Int) ≤ x → ρ2 102 x = ρ 102 x) → (∀ p, 0 ≤ p → p < (q : Int) → ρ2 102 (4374 * (j : Int) + p) = if (wTE s m mc) p = t then wAq s (wTE s m mc) b j p else 1000000) → FW g zX6_reckons 0 0 (fun o τ l' => l' = l ∧ o = .inl (some (bv (wLk s (wTE s m mc) b fr = -1))) ∧ (∀ a, a ≠ 102 → a ≠ 103 → τ a = σ a) ∧ (wLk s (wTE s m mc) b fr = -1 → RK τ s (wTE s m mc) b fr)) 118 [some (.ref 92), some (iv (fr : Int)), some (iv b), some (iv m), some (iv mc), some (iv (2 * ((3 ^ wH s : Nat) : Int))), some (iv can), some (iv (j : Int)), some (iv go), some (iv i), u10] [] ρ2 l := by
              refine loopUp _ (fun q hq2 ih2 i can u10 ρ2 hi hcan h102 hx hv => ?_)
              subst hi
              have hcr := cnI_rng (wTE s m mc) t q
              have hcs : cnI (wTE s m mc) t (q + 1) = cnI (wTE s m mc) t q + (if (wTE s m mc) q = t then 1 else 0) := rfl
              have hc01 : 0 ≤ can ∧ can ≤ 1 := by rw [hcan]; split <;> omega
              have hLρ2 : LdP ρ2 s := ⟨fun k a b => by rw [h102 98 (by decide)]; exact hLρ.1 k a b, fun p a b => by rw [h102 99 (by decide), h102 100 (by decide), h102 101 (by decide)]; exact hLρ.2 p a b⟩
              have hsρ2 : ρ2 93 = s := (h102 93 (by decide)).trans hsρ
              have hwr := wAq_r (TE := (wTE s m mc)) (b := b) ho j (q : Int)
              by_cases hqn : q < 2 * 3 ^ wH s
              · by_cases hgood : (wTE s m mc) (q : Int) = t
                · have hgd : Fw g zX6_isGood [.ref 92, iv (q : Int), iv t, iv m, iv mc] ρ2 l (iv 1) := by
                    have h := isGood_m (g := g) (l := l) (σ := ρ2) ho hLρ2 (p := (q : Int)) ⟨by omega, by omega⟩ (t := t) ⟨by omega, by omega⟩ hm hmc
                    rw [bvT hgood] at h
                    exact h
                  refine g_iload9 dX6_reckons_118 ?_
                  refine g_iload5 dX6_reckons_120 ?_
                  refine g_icmp_ge ⟨by omega, by omega⟩ ⟨by omega, by omega⟩ (tgt := 198) dX6_reckons_122 rfl (fun h122 => absurd h122 (by omega)) (fun h122 => ?_)
                  refine g_aload0 dX6_reckons_125 ?_
                  refine g_iload9 dX6_reckons_126 ?_
                  refine g_aload0 dX6_reckons_128 ?_
                  refine g_iload7 dX6_reckons_129 ?_
                  refine f_cV1w (toneAt_m hsρ2 (by omega)) rfl (by decide) rfl oY_X6_toneAt oI_X6_toneAt lk_X6_143 rfl dX6_reckons_131 rfl (Or.inl rfl) ?_
                  refine g_iload2 dX6_reckons_134 ?_
                  refine g_iadd dX6_reckons_135 ?_
                  rw [← ht]
                  refine g_iload3 dX6_reckons_136 ?_
                  refine g_iload4 dX6_reckons_137 ?_
                  refine f_cV4w (hgd) rfl (by decide) rfl oY_X6_isGood oI_X6_isGood lk_X6_139 rfl dX6_reckons_139 rfl (Or.inl rfl) ?_
                  refine g_istore10 dX6_reckons_142 rfl (by decide) ?_
                  refine g_aload0 dX6_reckons_144 ?_
                  refine f_getr (r := 102) rfl (by decide) rfl rfl fl_X6_40 dX6_reckons_145 ?_
                  refine g_sipush dX6_reckons_148 (by decide) ?_
                  refine g_iload7 dX6_reckons_151 ?_
                  refine g_imul dX6_reckons_153 ?_
                  refine g_iload9 dX6_reckons_154 ?_
                  refine g_iadd dX6_reckons_156 ?_
                  refine g_iload10 dX6_reckons_157 ?_
                  refine g_if_eq ⟨by decide, by decide⟩ (tgt := 172) dX6_reckons_159 rfl (fun h159 => absurd h159 (by decide)) (fun h159 => ?_)
                  refine g_aload0 dX6_reckons_162 ?_
                  refine f_getr (r := 103) rfl (by decide) rfl rfl fl_X6_43 dX6_reckons_163 ?_
                  refine g_iload9 dX6_reckons_166 ?_
                  refine f_iald rfl (by decide) ⟨by omega, by show _ < ((4374 : Nat) : Int); omega⟩ dX6_reckons_168 ?_
                  rw [h102 103 (by decide), hρv _ (by omega) (by omega)]
                  refine g_goto (tgt := 174) dX6_reckons_169 rfl ?_
                  refine f_iast rfl (by decide) ⟨by omega, by show _ < ((174960 : Nat) : Int); omega⟩ dX6_reckons_174 ?_
                  refine g_iload6 dX6_reckons_175 ?_
                  refine g_if_ne ⟨by omega, by omega⟩ (tgt := 185) dX6_reckons_177 rfl (fun h177 => ?_) (fun h177 => ?_)
                  · refine g_iconst dX6_reckons_185 ?_
                    refine g_goto (tgt := 190) dX6_reckons_186 rfl ?_
                    refine g_istore6 dX6_reckons_190 rfl (by decide) ?_
                    refine g_iinc9 dX6_reckons_192 rfl (by decide) ?_
                    refine g_goto (tgt := 118) dX6_reckons_195 rfl ?_
                    refine ih2 (by omega) _ _ _ _ (by push_cast; omega) ?_ (fun a ha => by rw [up_n ha]; exact h102 a ha) (fun x hx2 => by rw [up_ne (fun z => by omega)]; exact hx x (by omega)) (fun p a b2 => ?_)
                    · rw [hcs, if_pos hgood]
                      first
                        | (rw [if_pos (by omega)])
                        | (rw [if_neg (by omega)])
                        | (rw [Int.add_zero]; rw [hcan] at h177; split at h177; (exact absurd rfl h177); rw [if_neg (by assumption)])
                        | (rw [Int.add_zero]; rw [hcan] at h177; split at h177; rw [if_pos (by assumption)]; (exact absurd h177 (by decide)))
                    · by_cases e : p = (q : Int)
                      · rw [e, up_eq, if_pos hgood]
                      · rw [up_ne (fun z => by omega)]
                        exact hv p a (by omega)
                  · refine g_iload10 dX6_reckons_180 ?_
                    refine g_if_eq ⟨by decide, by decide⟩ (tgt := 189) dX6_reckons_182 rfl (fun h182 => absurd h182 (by decide)) (fun h182 => ?_)
                    refine g_iconst dX6_reckons_185 ?_
                    refine g_goto (tgt := 190) dX6_reckons_186 rfl ?_
                    refine g_istore6 dX6_reckons_190 rfl (by decide) ?_
                    refine g_iinc9 dX6_reckons_192 rfl (by decide) ?_
                    refine g_goto (tgt := 118) dX6_reckons_195 rfl ?_
                    refine ih2 (by omega) _ _ _ _ (by push_cast; omega) ?_ (fun a ha => by rw [up_n ha]; exact h102 a ha) (fun x hx2 => by rw [up_ne (fun z => by omega)]; exact hx x (by omega)) (fun p a b2 => ?_)
                    · rw [hcs, if_pos hgood]
                      first
                        | (rw [if_pos (by omega)])
                        | (rw [if_neg (by omega)])
                        | (rw [Int.add_zero]; rw [hcan] at h177; split at h177; (exact absurd rfl h177); rw [if_neg (by assumption)])
                        | (rw [Int.add_zero]; rw [hcan] at h177; split at h177; rw [if_pos (by assumption)]; (exact absurd h177 (by decide)))
                    · by_cases e : p = (q : Int)
                      · rw [e, up_eq, if_pos hgood]
                      · rw [up_ne (fun z => by omega)]
                        exact hv p a (by omega)
                · have hgd : Fw g zX6_isGood [.ref 92, iv (q : Int), iv t, iv m, iv mc] ρ2 l (iv 0) := by
                    have h := isGood_m (g := g) (l := l) (σ := ρ2) ho hLρ2 (p := (q : Int)) ⟨by omega, by omega⟩ (t := t) ⟨by omega, by omega⟩ hm hmc
                    rw [bvF hgood] at h
                    exact h
                  refine g_iload9 dX6_reckons_118 ?_
                  refine g_iload5 dX6_reckons_120 ?_
                  refine g_icmp_ge ⟨by omega, by omega⟩ ⟨by omega, by omega⟩ (tgt := 198) dX6_reckons_122 rfl (fun h122 => absurd h122 (by omega)) (fun h122 => ?_)
                  refine g_aload0 dX6_reckons_125 ?_
                  refine g_iload9 dX6_reckons_126 ?_
                  refine g_aload0 dX6_reckons_128 ?_
                  refine g_iload7 dX6_reckons_129 ?_
                  refine f_cV1w (toneAt_m hsρ2 (by omega)) rfl (by decide) rfl oY_X6_toneAt oI_X6_toneAt lk_X6_143 rfl dX6_reckons_131 rfl (Or.inl rfl) ?_
                  refine g_iload2 dX6_reckons_134 ?_
                  refine g_iadd dX6_reckons_135 ?_
                  rw [← ht]
                  refine g_iload3 dX6_reckons_136 ?_
                  refine g_iload4 dX6_reckons_137 ?_
                  refine f_cV4w (hgd) rfl (by decide) rfl oY_X6_isGood oI_X6_isGood lk_X6_139 rfl dX6_reckons_139 rfl (Or.inl rfl) ?_
                  refine g_istore10 dX6_reckons_142 rfl (by decide) ?_
                  refine g_aload0 dX6_reckons_144 ?_
                  refine f_getr (r := 102) rfl (by decide) rfl rfl fl_X6_40 dX6_reckons_145 ?_
                  refine g_sipush dX6_reckons_148 (by decide) ?_
                  refine g_iload7 dX6_reckons_151 ?_
                  refine g_imul dX6_reckons_153 ?_
                  refine g_iload9 dX6_reckons_154 ?_
                  refine g_iadd dX6_reckons_156 ?_
                  refine g_iload10 dX6_reckons_157 ?_
                  refine g_if_eq ⟨by decide, by decide⟩ (tgt := 172) dX6_reckons_159 rfl (fun h159 => ?_) (fun h159 => absurd h159 (by decide))
                  refine g_ldc (v := Int32.ofInt (1000000)) kc_X6_159 dX6_reckons_172 ?_
                  refine f_iast rfl (by decide) ⟨by omega, by show _ < ((174960 : Nat) : Int); omega⟩ dX6_reckons_174 ?_
                  refine g_iload6 dX6_reckons_175 ?_
                  refine g_if_ne ⟨by omega, by omega⟩ (tgt := 185) dX6_reckons_177 rfl (fun h177 => ?_) (fun h177 => ?_)
                  · refine g_iconst dX6_reckons_185 ?_
                    refine g_goto (tgt := 190) dX6_reckons_186 rfl ?_
                    refine g_istore6 dX6_reckons_190 rfl (by decide) ?_
                    refine g_iinc9 dX6_reckons_192 rfl (by decide) ?_
                    refine g_goto (tgt := 118) dX6_reckons_195 rfl ?_
                    refine ih2 (by omega) _ _ _ _ (by push_cast; omega) ?_ (fun a ha => by rw [up_n ha]; exact h102 a ha) (fun x hx2 => by rw [up_ne (fun z => by omega)]; exact hx x (by omega)) (fun p a b2 => ?_)
                    · rw [hcs, if_neg hgood]
                      first
                        | (rw [if_pos (by omega)])
                        | (rw [if_neg (by omega)])
                        | (rw [Int.add_zero]; rw [hcan] at h177; split at h177; (exact absurd rfl h177); rw [if_neg (by assumption)])
                        | (rw [Int.add_zero]; rw [hcan] at h177; split at h177; rw [if_pos (by assumption)]; (exact absurd h177 (by decide)))
                    · by_cases e : p = (q : Int)
                      · rw [e, up_eq, if_neg hgood]
                      · rw [up_ne (fun z => by omega)]
                        exact hv p a (by omega)
                  · refine g_iload10 dX6_reckons_180 ?_
                    refine g_if_eq ⟨by decide, by decide⟩ (tgt := 189) dX6_reckons_182 rfl (fun h182 => ?_) (fun h182 => absurd h182 (by decide))
                    refine g_iconst dX6_reckons_189 ?_
                    refine g_istore6 dX6_reckons_190 rfl (by decide) ?_
                    refine g_iinc9 dX6_reckons_192 rfl (by decide) ?_
                    refine g_goto (tgt := 118) dX6_reckons_195 rfl ?_
                    refine ih2 (by omega) _ _ _ _ (by push_cast; omega) ?_ (fun a ha => by rw [up_n ha]; exact h102 a ha) (fun x hx2 => by rw [up_ne (fun z => by omega)]; exact hx x (by omega)) (fun p a b2 => ?_)
                    · rw [hcs, if_neg hgood]
                      first
                        | (rw [if_pos (by omega)])
                        | (rw [if_neg (by omega)])
                        | (rw [Int.add_zero]; rw [hcan] at h177; split at h177; (exact absurd rfl h177); rw [if_neg (by assumption)])
                        | (rw [Int.add_zero]; rw [hcan] at h177; split at h177; rw [if_pos (by assumption)]; (exact absurd h177 (by decide)))
                    · by_cases e : p = (q : Int)
                      · rw [e, up_eq, if_neg hgood]
                      · rw [up_ne (fun z => by omega)]
                        exact hv p a (by omega)
              · refine g_iload9 dX6_reckons_118 ?_
                refine g_iload5 dX6_reckons_120 ?_
                refine g_icmp_ge ⟨by omega, by omega⟩ ⟨by omega, by omega⟩ (tgt := 198) dX6_reckons_122 rfl (fun h122 => ?_) (fun h122 => absurd h122 (by omega))
                refine g_iinc7 dX6_reckons_198 rfl (by decide) ?_
                refine g_goto (tgt := 20) dX6_reckons_201 rfl ?_
                have eq9 : q = 2 * 3 ^ wH s := by omega
                subst eq9
                have hfm : ∀ a, a ≠ 102 → a ≠ 103 → ρ2 a = σ a := fun a a2 a3 => (h102 a a2).trans ((hρ a a3).trans (hf a a2 a3))
                have hEl := EL_len (wTE s m mc) t (2 * 3 ^ wH s)
                have hEP : EP (wTE s m mc) (2 * 3 ^ wH s) t = EL (wTE s m mc) t (2 * 3 ^ wH s) := by unfold EP; rw [if_pos hgj]
                by_cases cz : cnI (wTE s m mc) t (2 * 3 ^ wH s) = 0
                · rw [if_pos cz] at hcan
                  subst hcan
                  refine ex0 _ _ _ _ _ (by omega) hfm (fun z => ?_)
                  rcases z j (by omega) (by omega) with z1 | z1
                  · exact hno z1
                  · rw [← ht, hEP] at z1; omega
                · rw [if_neg cz] at hcan
                  subst hcan
                  refine ih (by omega) (by omega) (fun k a b2 => ?_) _ _ _ _ _ (by omega) hfm (fun k a b2 hk p p0 p1 => ?_)
                  · by_cases e : k = j
                    · subst e; exact Or.inr (by rw [← ht, hEP]; omega)
                    · exact hok k (by omega) b2
                  · by_cases e : k = j
                    · subst e
                      rw [hv p p0 (by omega), ← ht]
                    · rw [hx _ (by omega), hρ 102 (by decide)]
                      exact hrk k (by omega) b2 hk p p0 p1
            refine g_iconst dX6_reckons_112 ?_
            refine g_istore6 dX6_reckons_113 rfl (by decide) ?_
            refine g_iconst dX6_reckons_115 ?_
            refine g_istore9 dX6_reckons_116 rfl (by decide) ?_
            exact loop 0 (Nat.zero_le _) _ _ _ _ rfl rfl (fun _ _ => rfl) (fun _ _ => rfl) (fun p a b2 => by omega)
          have hgo := isNoted_m (g := g) (l := l) (σ := τ) ho hsτ (k := j + 1) (by omega)
          by_cases cgo : j + 1 < wN s ∧ wTu s ((j + 1 : Nat) : Int) ≠ -1
          · rw [bvT cgo] at hgo
            have hgn := (hgB_at (k := j + 1) cgo.1 hg).resolve_left cgo.2
            obtain ⟨F, hF⟩ : ∃ F : Int → Int, F = (f0N (fun i => ((EL (wTE s m mc) (wTu s ((j + 1 : Nat) : Int) + b) (2 * 3 ^ wH s)).getD i 0 : Nat)) (fun i => wAq s (wTE s m mc) b (j + 1) ((EL (wTE s m mc) (wTu s ((j + 1 : Nat) : Int) + b) (2 * 3 ^ wH s)).getD i 0 : Nat)) (EL (wTE s m mc) (wTu s ((j + 1 : Nat) : Int) + b) (2 * 3 ^ wH s)).length) := ⟨_, rfl⟩
            have hFr : rg6 F := by rw [hF]; exact f0N_rg _ (fun i _ => wAq_r ho _ _)
            have hFv : ∀ p, 0 ≤ p → p < (2 * ((3 ^ wH s : Nat) : Int)) → τ 102 (4374 * ((j + 1 : Nat) : Int) + p) = F p := fun p p0 p1 => by
              rw [hrk (j + 1) (by omega) cgo.1 cgo.2 p p0 p1, hF]
              have h := f0_EL (TE := (wTE s m mc)) (A := wAq s (wTE s m mc) b (j + 1)) (t := wTu s ((j + 1 : Nat) : Int) + b) (N := 2 * 3 ^ wH s) (p := p.toNat) (by omega)
              rw [show ((p.toNat : Nat) : Int) = p from by omega] at h
              exact h.symm
            have loop1 : ∀ q : Nat, q ≤ 2 * 3 ^ wH s → ∀ (i : Int) (u10 : Option Value) (ρ : sT), i = (q : Int) → (∀ a, a ≠ 103 → ρ a = τ a) → (∀ p, 0 ≤ p → p < (q : Int) → ρ 103 p = F p) → FW g zX6_reckons 0 0 (fun o τ l' => l' = l ∧ o = .inl (some (bv (wLk s (wTE s m mc) b fr = -1))) ∧ (∀ a, a ≠ 102 → a ≠ 103 → τ a = σ a) ∧ (wLk s (wTE s m mc) b fr = -1 → RK τ s (wTE s m mc) b fr)) 56 [some (.ref 92), some (iv (fr : Int)), some (iv b), some (iv m), some (iv mc), some (iv (2 * ((3 ^ wH s : Nat) : Int))), some (iv 1), some (iv (j : Int)), some (iv 1), some (iv i), u10] [] ρ l := by
              refine loopUp _ (fun q hq2 ih2 i u10 ρ hi hρ hv => ?_)
              subst hi
              refine g_iload9 dX6_reckons_56 ?_
              refine g_iload5 dX6_reckons_58 ?_
              refine g_icmp_ge ⟨by omega, by omega⟩ ⟨by omega, by omega⟩ (tgt := 101) dX6_reckons_60 rfl (fun h60 => ?_) (fun h60 => ?_)
              · refine g_iload8 dX6_reckons_101 ?_
                refine g_if_eq ⟨by decide, by decide⟩ (tgt := 112) dX6_reckons_103 rfl (fun h103 => absurd h103 (by decide)) (fun h103 => ?_)
                refine g_aload0 dX6_reckons_106 ?_
                refine g_iload5 dX6_reckons_107 ?_
                refine f_cV1n (spreads_m ho ((hρ 93 (by decide)).trans hsτ) hFr (fun p a b2 => hv p a (by omega))) rfl (by decide) rfl oY_X6_spreads oI_X6_spreads lk_X6_155 rfl dX6_reckons_109 (Nat.zero_le _) (Nat.zero_le _) rfl (Or.inl rfl) (fun v109 σ109 l109 h109 => ?_) (fun e9 σ109 l109 h109 => by cases h109.1)
                obtain ⟨z1, z2, z3, z4⟩ := h109
                cases z1
                subst z2
                show GW g _ _ _ _ _ _ [] _
                refine fin _ _ _ _ _ (fun a ha => (z3 a ha).trans (hρ a ha)) (fun p a b2 => ?_)
                rw [z4 p a b2, hF]
                exact row_sp ho cgo.1 cgo.2 hgn a b2
              · refine g_aload0 dX6_reckons_63 ?_
                refine f_getr (r := 103) rfl (by decide) rfl rfl fl_X6_43 dX6_reckons_64 ?_
                refine g_iload9 dX6_reckons_67 ?_
                refine g_iload8 dX6_reckons_69 ?_
                refine g_if_eq ⟨by decide, by decide⟩ (tgt := 93) dX6_reckons_71 rfl (fun h71 => absurd h71 (by decide)) (fun h71 => ?_)
                refine g_aload0 dX6_reckons_74 ?_
                refine f_getr (r := 102) rfl (by decide) rfl rfl fl_X6_40 dX6_reckons_75 ?_
                refine g_sipush dX6_reckons_78 (by decide) ?_
                refine g_iload7 dX6_reckons_81 ?_
                refine g_iconst dX6_reckons_83 ?_
                refine g_iadd dX6_reckons_84 ?_
                refine g_imul dX6_reckons_85 ?_
                refine g_iload9 dX6_reckons_86 ?_
                refine g_iadd dX6_reckons_88 ?_
                refine f_iald rfl (by decide) ⟨by omega, by show _ < ((174960 : Nat) : Int); omega⟩ dX6_reckons_89 ?_
                rw [hρ 102 (by decide), show (4374 : Int) * ((j : Int) + 1) + (q : Int) = 4374 * ((j + 1 : Nat) : Int) + (q : Int) from by push_cast; omega, hFv _ (by omega) (by omega)]
                refine g_goto (tgt := 94) dX6_reckons_90 rfl ?_
                refine f_iast rfl (by decide) ⟨by omega, by show _ < ((4374 : Nat) : Int); omega⟩ dX6_reckons_94 ?_
                refine g_iinc9 dX6_reckons_95 rfl (by decide) ?_
                refine g_goto (tgt := 56) dX6_reckons_98 rfl ?_
                refine ih2 (by omega) _ _ _ (by push_cast; omega) (fun a ha => by rw [up_n ha]; exact hρ a ha) (fun p a b2 => ?_)
                by_cases e : p = (q : Int)
                · rw [e, up_eq]
                · rw [up_ne (fun z => e z.2)]; exact hv p a (by omega)
            refine g_aload0 dX6_reckons_43 ?_
            refine g_iload7 dX6_reckons_44 ?_
            refine g_iconst dX6_reckons_46 ?_
            refine g_iadd dX6_reckons_47 ?_
            rw [show (j : Int) + 1 = ((j + 1 : Nat) : Int) from by push_cast; rfl]
            refine f_cV1w (hgo) rfl (by decide) rfl oY_X6_isNoted oI_X6_isNoted lk_X6_152 rfl dX6_reckons_48 rfl (Or.inl rfl) ?_
            refine g_istore8 dX6_reckons_51 rfl (by decide) ?_
            refine g_iconst dX6_reckons_53 ?_
            refine g_istore9 dX6_reckons_54 rfl (by decide) ?_
            exact loop1 0 (Nat.zero_le _) _ _ _ rfl (fun _ _ => rfl) (fun p a b2 => by omega)
          · rw [bvF cgo] at hgo
            have loop1 : ∀ q : Nat, q ≤ 2 * 3 ^ wH s → ∀ (i : Int) (u10 : Option Value) (ρ : sT), i = (q : Int) → (∀ a, a ≠ 103 → ρ a = τ a) → (∀ p, 0 ≤ p → p < (q : Int) → ρ 103 p = 0) → FW g zX6_reckons 0 0 (fun o τ l' => l' = l ∧ o = .inl (some (bv (wLk s (wTE s m mc) b fr = -1))) ∧ (∀ a, a ≠ 102 → a ≠ 103 → τ a = σ a) ∧ (wLk s (wTE s m mc) b fr = -1 → RK τ s (wTE s m mc) b fr)) 56 [some (.ref 92), some (iv (fr : Int)), some (iv b), some (iv m), some (iv mc), some (iv (2 * ((3 ^ wH s : Nat) : Int))), some (iv 1), some (iv (j : Int)), some (iv 0), some (iv i), u10] [] ρ l := by
              refine loopUp _ (fun q hq2 ih2 i u10 ρ hi hρ hv => ?_)
              subst hi
              refine g_iload9 dX6_reckons_56 ?_
              refine g_iload5 dX6_reckons_58 ?_
              refine g_icmp_ge ⟨by omega, by omega⟩ ⟨by omega, by omega⟩ (tgt := 101) dX6_reckons_60 rfl (fun h60 => ?_) (fun h60 => ?_)
              · refine g_iload8 dX6_reckons_101 ?_
                refine g_if_eq ⟨by decide, by decide⟩ (tgt := 112) dX6_reckons_103 rfl (fun h103 => ?_) (fun h103 => absurd h103 (by decide))
                refine fin _ _ _ _ _ hρ (fun p a b2 => ?_)
                rw [hv p a (by omega)]
                show 0 = wA (wCo s) (wE (wTE s m mc) (wTu s) (wH s) b) (wTu s) (wN s) j p
                rw [wA_s, if_neg (fun z => cgo ⟨z.1, by have z2 := z.2; rw [show (j : Int) + 1 = ((j + 1 : Nat) : Int) from by push_cast; rfl] at z2; exact z2⟩)]
              · refine g_aload0 dX6_reckons_63 ?_
                refine f_getr (r := 103) rfl (by decide) rfl rfl fl_X6_43 dX6_reckons_64 ?_
                refine g_iload9 dX6_reckons_67 ?_
                refine g_iload8 dX6_reckons_69 ?_
                refine g_if_eq ⟨by decide, by decide⟩ (tgt := 93) dX6_reckons_71 rfl (fun h71 => ?_) (fun h71 => absurd h71 (by decide))
                refine g_iconst dX6_reckons_93 ?_
                refine f_iast rfl (by decide) ⟨by omega, by show _ < ((4374 : Nat) : Int); omega⟩ dX6_reckons_94 ?_
                refine g_iinc9 dX6_reckons_95 rfl (by decide) ?_
                refine g_goto (tgt := 56) dX6_reckons_98 rfl ?_
                refine ih2 (by omega) _ _ _ (by push_cast; omega) (fun a ha => by rw [up_n ha]; exact hρ a ha) (fun p a b2 => ?_)
                by_cases e : p = (q : Int)
                · rw [e, up_eq]
                · rw [up_ne (fun z => e z.2)]; exact hv p a (by omega)
            refine g_aload0 dX6_reckons_43 ?_
            refine g_iload7 dX6_reckons_44 ?_
            refine g_iconst dX6_reckons_46 ?_
            refine g_iadd dX6_reckons_47 ?_
            rw [show (j : Int) + 1 = ((j + 1 : Nat) : Int) from by push_cast; rfl]
            refine f_cV1w (hgo) rfl (by decide) rfl oY_X6_isNoted oI_X6_isNoted lk_X6_152 rfl dX6_reckons_48 rfl (Or.inl rfl) ?_
            refine g_istore8 dX6_reckons_51 rfl (by decide) ?_
            refine g_iconst dX6_reckons_53 ?_
            refine g_istore9 dX6_reckons_54 rfl (by decide) ?_
            exact loop1 0 (Nat.zero_le _) _ _ _ rfl (fun _ _ => rfl) (fun p a b2 => by omega)
        · refine g_goto (tgt := 198) dX6_reckons_40 rfl ?_
          refine g_iinc7 dX6_reckons_198 rfl (by decide) ?_
          refine g_goto (tgt := 20) dX6_reckons_201 rfl ?_
          have hno : wTu s j = -1 := Classical.byContradiction fun z => h37 ⟨by omega, z⟩
          refine ih (by omega) (by omega) (fun k a b2 => ?_) _ _ _ _ _ (by omega) hf (fun k a b2 hk p p0 p1 => ?_)
          · by_cases e : k = j
            · subst e; exact Or.inl hno
            · exact hok k (by omega) b2
          · by_cases e : k = j
            · subst e; exact absurd hno hk
            · exact hrk k (by omega) b2 hk p p0 p1
  refine g_aload0 dX6_reckons_0 ?_
  refine f_cV0w (many_ok ho hs) rfl (by decide) rfl oY_X6_many oI_X6_many lk_X6_80 rfl dX6_reckons_1 rfl (Or.inl rfl) ?_
  refine g_istore5 dX6_reckons_4 rfl (by decide) ?_
  refine g_iconst dX6_reckons_6 ?_
  refine g_istore6 dX6_reckons_7 rfl (by decide) ?_
  refine g_aload0 dX6_reckons_9 ?_
  refine f_getr (r := 93) rfl (by decide) rfl rfl fl_X6_7 dX6_reckons_10 ?_
  refine g_bipush dX6_reckons_13 (by decide) ?_
  refine f_iald rfl (by decide) ⟨by omega, by show _ < ((67 : Nat) : Int); omega⟩ dX6_reckons_15 ?_
  rw [hs, hI]
  refine g_iconst dX6_reckons_16 ?_
  refine g_isub dX6_reckons_17 ?_
  refine g_istore7 dX6_reckons_18 rfl (by decide) ?_
  exact main (wN s) (Nat.le_refl _) hfr (fun k a b2 => by omega) _ _ _ _ _ rfl (fun _ _ _ => rfl) (fun k a b2 => by omega)
end C70
