/-! Choice.place, choose -/
section C28
variable {g : gT} {σ : sT} {l : Nat → Nat}
theorem okCh {o : Nat} (hs : isCh o) : okV 110 (.ref o) := ⟨Or.inl (hs.lt 0 (by decide)), hs.ow⟩
def cdP (c p : Int) : Nat := cdN (fgF c p) ||| (if p < c then 0 else 16384)
def tnP (cR : Int → Int) (c tol p : Int) : Int := tonF (cR (fgF c p) + (if p < c then 0 else 1200)) tol
def teP (cR : Int → Int) (c tol hv cr p : Int) : Int := if tnP cR c tol p ≠ -1 ∧ hvF (fgF c p) ≤ hv ∧ crF (fgF c p) ≤ cr then tnP cR c tol p else -1
theorem tonF_rng {c tol : Int} (hc : 0 ≤ c) : -1 ≤ tonF c tol ∧ tonF c tol < 25 := by unfold tonF; split <;> omega
theorem teP_rng {cR : Int → Int} {c tol hv cr p : Int} (h : -1 ≤ tnP cR c tol p ∧ tnP cR c tol p < 25) : -1 ≤ teP cR c tol hv cr p ∧ teP cR c tol hv cr p < 25 := by unfold teP; split <;> omega
def cnI (f : Int → Int) (t : Int) : Nat → Int
  | 0 => 0
  | n + 1 => cnI f t n + (if f n = t then 1 else 0)
def limN (T hF xF : Int → Int) (t : Int) : Nat → Nat
  | 0 => 0
  | n + 1 => if T n = t ∧ hF n ≤ 2 ∧ xF n ≤ 3 then limN T hF xF t n ||| 2 ^ ((hF n).toNat * 4 + (xF n).toNat) else limN T hF xF t n
theorem cnI_rng (f : Int → Int) (t : Int) (n : Nat) : 0 ≤ cnI f t n ∧ cnI f t n ≤ n := by
  induction n with
  | zero => exact ⟨Int.le_refl _, Int.le_refl _⟩
  | succ n ih => unfold cnI; split <;> omega
theorem cnI_mono (f : Int → Int) (t : Int) {m n : Nat} (h : m ≤ n) : cnI f t m ≤ cnI f t n := by
  induction n with
  | zero => have : m = 0 := by omega
            subst this; exact Int.le_refl _
  | succ n ih =>
    by_cases e : m = n + 1
    · rw [e]; exact Int.le_refl _
    · have := ih (by omega)
      show cnI f t m ≤ cnI f t n + (if f n = t then 1 else 0)
      split <;> omega
/-- the places of t among the first n -/
def EL (f : Int → Int) (t : Int) (n : Nat) : List Nat := (List.range n).filter (fun q => decide (f q = t))
theorem EL_succ (f : Int → Int) (t : Int) (n : Nat) : EL f t (n + 1) = EL f t n ++ (if f n = t then [n] else []) := by
  unfold EL
  rw [List.range_succ, List.filter_append]
  congr 1
  by_cases h : f n = t
  · rw [if_pos h, List.filter_cons, if_pos (by simpa using h)]; rfl
  · rw [if_neg h, List.filter_cons, if_neg (by simpa using h)]; rfl
theorem EL_len (f : Int → Int) (t : Int) (n : Nat) : ((EL f t n).length : Int) = cnI f t n := by
  induction n with
  | zero => rfl
  | succ n ih =>
    rw [EL_succ, List.length_append]
    unfold cnI
    split <;> simp <;> omega
theorem frI_0 (c : Int → Int) : frI c 0 = 0 := rfl
theorem frI_s (c : Int → Int) (t : Nat) : frI c (t + 1) = frI c t + c t := rfl
theorem frI_mono {c : Int → Int} (hc : ∀ t, 0 ≤ c t) {a b : Nat} (h : a ≤ b) : frI c a ≤ frI c b := by
  induction b with
  | zero => have : a = 0 := by omega
            subst this; exact Int.le_refl _
  | succ b ih =>
    by_cases e : a = b + 1
    · rw [e]; exact Int.le_refl _
    · have h1 := ih (by omega)
      have h2 := hc b
      rw [frI_s]; omega
theorem frI_cn (f : Int → Int) (n T : Nat) : frI (fun t => cnI f t (n + 1)) T = frI (fun t => cnI f t n) T + (if 0 ≤ f n ∧ f n < T then 1 else 0) := by
  induction T with
  | zero => rw [frI_0, frI_0, if_neg (by omega)]; rfl
  | succ T ih =>
    rw [frI_s, frI_s, ih]
    show _ + (cnI f T n + (if f n = T then 1 else 0)) = _
    by_cases e : f n = T
    · rw [if_pos e, if_neg (by omega), if_pos (by omega)]; omega
    · rw [if_neg e]
      by_cases e2 : 0 ≤ f n ∧ f n < (T : Int)
      · rw [if_pos e2, if_pos (by omega)]; omega
      · rw [if_neg e2, if_neg (by omega)]; omega
theorem frI_le (f : Int → Int) (n T : Nat) : 0 ≤ frI (fun t => cnI f t n) T ∧ frI (fun t => cnI f t n) T ≤ n := by
  induction n with
  | zero =>
    have : frI (fun t => cnI f t 0) T = 0 := by
      induction T with
      | zero => rfl
      | succ T ih => rw [frI_s, ih]; rfl
    rw [this]; omega
  | succ n ih => rw [frI_cn]; split <;> omega
def plS (σ : sT) (o : Nat) (p t : Int) (cd : Nat) : sT := if t = -1 then σ else up (up (up σ (o + 6) (σ (o + 2) t) p) (o + 7) (σ (o + 2) t) (cd : Int)) (o + 2) t (σ (o + 2) t + 1)
theorem place_ok {o : Nat} {p t : Int} (hs : isCh o) (hc : 0 ≤ σ 17 0 ∧ σ 17 0 ≤ 2187 ∧ σ 17 0 ≤ (ln l 18 : Int)) (hp : 0 ≤ p ∧ p < 2 * σ 17 0) (hv : σ 18 (fgF (σ 17 0) p) = (cdN (fgF (σ 17 0) p) : Int)) (ht : -1 ≤ t ∧ t < 25) (hx : t ≠ -1 → 0 ≤ σ (o + 2) t ∧ σ (o + 2) t < (ln l (o + 6) : Int) ∧ σ (o + 2) t < (ln l (o + 7) : Int)) : FO g zX0_place [.ref o, iv p, iv t, .ref 17] σ l (plS σ o p t (cdP (σ 17 0) p)) := by
  refine Fn.of [some (.ref o), some (iv p), some (iv t), some (.ref 17), none] rfl (by decide) (Nat.le_of_ble_eq_true rfl) rfl ?_
  have ho := hs.2.1
  refine g_iload2 dX0_place_0 ?_
  refine g_iconst dX0_place_1 ?_
  refine g_icmp_ne ⟨by omega, by omega⟩ ⟨by omega, by omega⟩ (tgt := 6) dX0_place_2 rfl (fun h2 => ?_) (fun h2 => ?_)
  · refine g_aload0 dX0_place_6 ?_
    refine f_getr (r := o + 2) hs.1 (hs.lt 0 (by decide)) rfl rfl fl_X0_15 dX0_place_7 ?_
    refine g_iload2 dX0_place_10 ?_
    refine f_cS2w (atI hs.k2 (hs.lt 2 (by decide)) (by omega) (by rw [hs.n2]; omega)) oY_X5_at oT_X5_at lk_X0_58 rfl dX0_place_11 rfl (Or.inl rfl) ?_
    refine g_istore4 dX0_place_14 rfl (by decide) ?_
    refine g_aload0 dX0_place_16 ?_
    refine f_getr (r := o + 6) hs.1 (hs.lt 0 (by decide)) rfl rfl fl_X0_27 dX0_place_17 ?_
    refine g_iload4 dX0_place_20 ?_
    refine g_iload1 dX0_place_22 ?_
    refine f_cS3d (putI hs.k6 (hs.lt 6 (by decide)) (hx h2).1 (hx h2).2.1) oY_X5_put oT_X5_put lk_X0_39 rfl dX0_place_23 rfl (Or.inl rfl) ?_
    refine g_aload0 dX0_place_26 ?_
    refine f_getr (r := o + 7) hs.1 (hs.lt 0 (by decide)) rfl rfl fl_X0_30 dX0_place_27 ?_
    refine g_iload4 dX0_place_30 ?_
    refine g_aload3 dX0_place_32 ?_
    refine g_iload1 dX0_place_33 ?_
    refine f_cV1w (codeOf_ok (c := cdN (fgF (σ 17 0) p)) (by rw [up_n (by omega)]; exact hc) (by rw [up_n (by omega)]; exact hp) (by rw [up_n (by omega), up_n (by omega)]; exact hv)) rfl (by decide) rfl oY_X1_codeOf oI_X1_codeOf lk_X0_78 rfl dX0_place_34 rfl (Or.inl rfl) ?_
    rw [up_n (by omega)]
    refine f_cS3d (putI hs.k7 (hs.lt 7 (by decide)) (hx h2).1 (hx h2).2.2) oY_X5_put oT_X5_put lk_X0_39 rfl dX0_place_37 rfl (Or.inl rfl) ?_
    refine g_aload0 dX0_place_40 ?_
    refine f_getr (r := o + 2) hs.1 (hs.lt 0 (by decide)) rfl rfl fl_X0_15 dX0_place_41 ?_
    refine g_iload2 dX0_place_44 ?_
    refine g_iload4 dX0_place_45 ?_
    refine g_iconst dX0_place_47 ?_
    refine g_iadd dX0_place_48 ?_
    refine f_cS3d (putI hs.k2 (hs.lt 2 (by decide)) (by omega) (by rw [hs.n2]; omega)) oY_X5_put oT_X5_put lk_X0_39 rfl dX0_place_49 rfl (Or.inl rfl) ?_
    refine g_return rfl dX0_place_52 ?_
    exact FO.ret (by unfold plS; rw [if_neg (show ¬ (t = -1) from h2)]; rfl)
  · refine g_return rfl dX0_place_5 ?_
    exact FO.ret (by unfold plS; rw [if_pos (by omega)])

theorem ci_a {o a : Nat} {t : Int} {hn xn mn : Nat} {hv cr : Int} (h2 : a ≠ o + 2) (h3 : a ≠ o + 3) (h4 : a ≠ o + 4) : ciS σ o t hn xn mn hv cr a = σ a := by
  unfold ciS ciL
  split
  · rfl
  · split <;> split <;> simp (disch := omega) only [up_n]
theorem ci_3 {o : Nat} {t b : Int} {hn xn mn : Nat} {hv cr : Int} (hb : 0 ≤ b) : ciS σ o t hn xn mn hv cr (o + 3) b = σ (o + 3) b + (if t = b then 1 else 0) := by
  unfold ciS ciL
  by_cases h1 : t = -1
  · rw [if_pos h1, if_neg (by omega)]; omega
  · rw [if_neg h1]
    by_cases e : t = b
    · subst e
      rw [if_pos rfl]
      split <;> split <;> simp (disch := omega) only [up_ne, up_eq]
    · rw [if_neg e]
      split <;> split <;> simp (disch := omega) only [up_ne, up_eq] <;> omega
theorem ci_4 {o : Nat} {t b : Int} {hn xn mn m : Nat} {hv cr : Int} (hb : 0 ≤ b) (hm : σ (o + 4) b = (m : Int)) (hmn : t = b → mn = m) : ciS σ o t hn xn mn hv cr (o + 4) b = ((if t = b ∧ (hn : Int) ≤ 2 ∧ (xn : Int) ≤ 3 then m ||| 2 ^ (hn * 4 + xn) else m : Nat) : Int) := by
  unfold ciS ciL
  by_cases h1 : t = -1
  · rw [if_pos h1, if_neg (by omega)]; exact hm
  · rw [if_neg h1]
    by_cases e : t = b
    · have e2 := hmn e
      subst e; subst e2
      by_cases e3 : (hn : Int) ≤ 2 ∧ (xn : Int) ≤ 3
      · rw [if_pos e3, if_pos (show t = t ∧ (hn : Int) ≤ 2 ∧ (xn : Int) ≤ 3 from ⟨rfl, e3⟩)]
        split <;> simp (disch := omega) only [up_ne, up_eq]
      · rw [if_neg e3, if_neg (show ¬ (t = t ∧ (hn : Int) ≤ 2 ∧ (xn : Int) ≤ 3) from fun z => e3 z.2)]
        split <;> simp (disch := omega) only [up_ne, up_eq] <;> exact hm
    · rw [if_neg (show ¬ (t = b ∧ (hn : Int) ≤ 2 ∧ (xn : Int) ≤ 3) from fun z => e z.1)]
      split <;> split <;> simp (disch := omega) only [up_ne, up_eq] <;> exact hm
theorem ci_2 {o : Nat} {t b : Int} {hn xn mn : Nat} {hv cr : Int} (hb : 0 ≤ b) : ciS σ o t hn xn mn hv cr (o + 2) b = σ (o + 2) b + (if (if t ≠ -1 ∧ (hn : Int) ≤ hv ∧ (xn : Int) ≤ cr then t else -1) = b then 1 else 0) := by
  unfold ciS ciL
  by_cases h1 : t = -1
  · rw [if_pos h1, if_neg (fun z : t ≠ -1 ∧ _ => z.1 h1), if_neg (by omega)]; omega
  · rw [if_neg h1]
    by_cases h5 : (hn : Int) ≤ hv ∧ (xn : Int) ≤ cr
    · rw [if_pos h5, if_pos (show t ≠ -1 ∧ (hn : Int) ≤ hv ∧ (xn : Int) ≤ cr from ⟨h1, h5⟩)]
      by_cases e : t = b
      · subst e
        rw [if_pos (show t = t from rfl), up_eq]
      · rw [if_neg e, up_ne (by omega)]
        split <;> simp (disch := omega) only [up_ne, up_eq] <;> omega
    · rw [if_neg h5, if_neg (show ¬ (t ≠ -1 ∧ (hn : Int) ≤ hv ∧ (xn : Int) ≤ cr) from fun z => h5 z.2), if_neg (show ¬ ((-1 : Int) = b) by omega)]
      split <;> simp (disch := omega) only [up_ne, up_eq] <;> omega
/-- the rows of counts, zeroed -/
theorem ch_zero {k n o : Nat} {tol hv cr cnt : Int} {Ψ : mO → sT → (Nat → Nat) → Prop} (hs : isCh o) (kont : ∀ τ i, (∀ a, a ≠ o + 2 → a ≠ o + 3 → a ≠ o + 4 → τ a = σ a) → (∀ t, 0 ≤ t → t < 25 → τ (o + 2) t = 0 ∧ τ (o + 3) t = 0 ∧ τ (o + 4) t = 0) → FW g zX0_choose k n Ψ 88 [some (.ref o), some (.ref 17), some (iv tol), some (iv hv), some (iv cr), some (iv cnt), some (iv i), none] [] τ l) :
    ∀ j : Nat, j ≤ 25 → ∀ (i : Int) (τ : sT), i = (j : Int) → (∀ a, a ≠ o + 2 → a ≠ o + 3 → a ≠ o + 4 → τ a = σ a) → (∀ t, 0 ≤ t → t < (j : Int) → τ (o + 2) t = 0 ∧ τ (o + 3) t = 0 ∧ τ (o + 4) t = 0) → FW g zX0_choose k n Ψ 45 [some (.ref o), some (.ref 17), some (iv tol), some (iv hv), some (iv cr), some (iv cnt), some (iv i), none] [] τ l := by
  refine loopUp 25 (fun j hj ih i τ hi hfr hz => ?_)
  subst hi
  refine g_iload6 dX0_choose_45 ?_
  refine g_bipush dX0_choose_47 (by decide) ?_
  refine g_icmp_ge ⟨by omega, by omega⟩ ⟨by omega, by omega⟩ (tgt := 88) dX0_choose_49 rfl (fun h49 => ?_) (fun h49 => ?_)
  · exact kont τ _ hfr (fun t a0 a1 => hz t a0 (by omega))
  · refine g_aload0 dX0_choose_52 ?_
    refine f_getr (r := o + 3) hs.1 (hs.lt 0 (by decide)) rfl rfl fl_X0_18 dX0_choose_53 ?_
    refine g_iload6 dX0_choose_56 ?_
    refine g_iconst dX0_choose_58 ?_
    refine f_cS3d (putI hs.k3 (hs.lt 3 (by decide)) (by omega) (by rw [hs.n3]; omega)) oY_X5_put oT_X5_put lk_X0_39 rfl dX0_choose_59 rfl (Or.inl rfl) ?_
    refine g_aload0 dX0_choose_62 ?_
    refine f_getr (r := o + 4) hs.1 (hs.lt 0 (by decide)) rfl rfl fl_X0_21 dX0_choose_63 ?_
    refine g_iload6 dX0_choose_66 ?_
    refine g_iconst dX0_choose_68 ?_
    refine f_cS3d (putI hs.k4 (hs.lt 4 (by decide)) (by omega) (by rw [hs.n4]; omega)) oY_X5_put oT_X5_put lk_X0_39 rfl dX0_choose_69 rfl (Or.inl rfl) ?_
    refine g_aload0 dX0_choose_72 ?_
    refine f_getr (r := o + 2) hs.1 (hs.lt 0 (by decide)) rfl rfl fl_X0_15 dX0_choose_73 ?_
    refine g_iload6 dX0_choose_76 ?_
    refine g_iconst dX0_choose_78 ?_
    refine f_cS3d (putI hs.k2 (hs.lt 2 (by decide)) (by omega) (by rw [hs.n2]; omega)) oY_X5_put oT_X5_put lk_X0_39 rfl dX0_choose_79 rfl (Or.inl rfl) ?_
    refine g_iinc6 dX0_choose_82 rfl (by decide) ?_
    refine g_goto (tgt := 45) dX0_choose_85 rfl ?_
    refine ih (by omega) _ _ (by push_cast; omega) (fun a a2 a3 a4 => by rw [up_n a2, up_n a4, up_n a3]; exact hfr a a2 a3 a4) (fun t a0 a1 => ?_)
    by_cases e9 : t = (j : Int)
    · subst e9
      simp (disch := omega) only [up_ne, up_eq]
      exact ⟨trivial, trivial, trivial⟩
    · simp (disch := omega) only [up_ne, up_eq]
      exact hz t a0 (by omega)
/-- every play counted -/
theorem ch_count {k n o N C : Nat} {tol hv cr : Int} {Ψ : mO → sT → (Nat → Nat) → Prop} (hs : isCh o) (hN : (N : Int) = 2 * σ 17 0) (hc : 0 ≤ σ 17 0 ∧ σ 17 0 ≤ 2187 ∧ σ 17 0 ≤ C) (hFC : FCap l C) (hFG : FG σ C) (hcen : ∀ r, 0 ≤ r → r < σ 17 0 → 0 ≤ σ 22 r ∧ σ 22 r ≤ 4800) (htol : 0 ≤ tol ∧ tol ≤ 100) (hv9 : 0 ≤ hv ∧ hv ≤ 9) (cr9 : 0 ≤ cr ∧ cr ≤ 9) (hln : N ≤ ln l (o + 5))
    (kont : ∀ τ i a7, (∀ a, a ≠ o + 2 → a ≠ o + 3 → a ≠ o + 4 → a ≠ o + 5 → τ a = σ a) → (∀ t, 0 ≤ t → t < 25 → τ (o + 2) t = cnI (teP (σ 22) (σ 17 0) tol hv cr) t N ∧ τ (o + 3) t = cnI (tnP (σ 22) (σ 17 0) tol) t N ∧ τ (o + 4) t = (limN (tnP (σ 22) (σ 17 0) tol) (fun p => hvF (fgF (σ 17 0) p)) (fun p => crF (fgF (σ 17 0) p)) t N : Int)) → (∀ q : Nat, q < N → τ (o + 5) q = teP (σ 22) (σ 17 0) tol hv cr q) → FW g zX0_choose k n Ψ 146 [some (.ref o), some (.ref 17), some (iv tol), some (iv hv), some (iv cr), some (iv (N : Int)), some (iv i), a7] [] τ l) :
    ∀ p : Nat, p ≤ N → ∀ (i : Int) (τ : sT) (a7 : Option Value), i = (p : Int) → (∀ a, a ≠ o + 2 → a ≠ o + 3 → a ≠ o + 4 → a ≠ o + 5 → τ a = σ a) → (∀ t, 0 ≤ t → t < 25 → τ (o + 2) t = cnI (teP (σ 22) (σ 17 0) tol hv cr) t p ∧ τ (o + 3) t = cnI (tnP (σ 22) (σ 17 0) tol) t p ∧ τ (o + 4) t = (limN (tnP (σ 22) (σ 17 0) tol) (fun p => hvF (fgF (σ 17 0) p)) (fun p => crF (fgF (σ 17 0) p)) t p : Int)) → (∀ q : Nat, q < p → τ (o + 5) q = teP (σ 22) (σ 17 0) tol hv cr q) → FW g zX0_choose k n Ψ 91 [some (.ref o), some (.ref 17), some (iv tol), some (iv hv), some (iv cr), some (iv (N : Int)), some (iv i), a7] [] τ l := by
  have ho := hs.2.1
  refine loopUp N (fun p hp ih i τ a7 hi hfr hc1 hc5 => ?_)
  subst hi
  have f17 : τ 17 = σ 17 := hfr 17 (by omega) (by omega) (by omega) (by omega)
  have f22 : τ 22 = σ 22 := hfr 22 (by omega) (by omega) (by omega) (by omega)
  have f19 : τ 19 = σ 19 := hfr 19 (by omega) (by omega) (by omega) (by omega)
  have f20 : τ 20 = σ 20 := hfr 20 (by omega) (by omega) (by omega) (by omega)
  refine g_iload6 dX0_choose_91 ?_
  refine g_iload5 dX0_choose_93 ?_
  refine g_icmp_ge ⟨by omega, by omega⟩ ⟨by omega, by omega⟩ (tgt := 146) dX0_choose_95 rfl (fun h95 => ?_) (fun h95 => ?_)
  · have e9 : p = N := by omega
    subst e9
    exact kont τ _ a7 hfr hc1 hc5
  · have hr0 : 0 ≤ fgF (σ 17 0) p ∧ fgF (σ 17 0) p < σ 17 0 := by unfold fgF; split <;> omega
    have hcn := hcen _ hr0.1 hr0.2
    have hg := hFG _ hr0.1 (by omega)
    have hh := hvF_rng (fgF (σ 17 0) p)
    have hx := crF_rng (fgF (σ 17 0) p)
    have htn : -1 ≤ tnP (σ 22) (σ 17 0) tol p ∧ tnP (σ 22) (σ 17 0) tol p < 25 := tonF_rng (by split <;> omega)
    refine g_aload1 dX0_choose_98 ?_
    refine g_iload6 dX0_choose_99 ?_
    refine f_cV1w (centsOf_ok (by rw [f17, hFC.2.2.2.2]; omega) (by rw [f17]; omega)) rfl (by decide) rfl oY_X1_centsOf oI_X1_centsOf lk_X0_43 rfl dX0_choose_101 rfl (Or.inl rfl) ?_
    rw [f17, f22]
    refine g_iload2 dX0_choose_104 ?_
    refine f_cS2w (toneOf_ok (by split <;> omega) ⟨by omega, by omega⟩) oY_X5_toneOf oT_X5_toneOf lk_X0_47 rfl dX0_choose_105 rfl (Or.inl rfl) ?_
    rw [show tonF (σ 22 (fgF (σ 17 0) p) + (if (p : Int) < σ 17 0 then 0 else 1200)) tol = tnP (σ 22) (σ 17 0) tol p from rfl]
    refine g_istore7 dX0_choose_108 rfl (by decide) ?_
    refine g_aload0 dX0_choose_110 ?_
    refine f_getr (r := o + 5) hs.1 (hs.lt 0 (by decide)) rfl rfl fl_X0_24 dX0_choose_111 ?_
    refine g_iload6 dX0_choose_114 ?_
    refine g_aload0 dX0_choose_116 ?_
    refine g_aload1 dX0_choose_117 ?_
    refine g_iload6 dX0_choose_118 ?_
    refine g_iload7 dX0_choose_120 ?_
    refine g_iload3 dX0_choose_122 ?_
    refine g_iload4 dX0_choose_123 ?_
    refine f_cV5x (countIfEasy_ok (hn := (hvF (fgF (σ 17 0) p)).toNat) (xn := (crF (fgF (σ 17 0) p)).toNat) (mn := limN (tnP (σ 22) (σ 17 0) tol) (fun p => hvF (fgF (σ 17 0) p)) (fun p => crF (fgF (σ 17 0) p)) (tnP (σ 22) (σ 17 0) tol p) p) hs (by rw [f17, hFC.2.1, hFC.2.2.1]; omega) (by rw [f17]; omega) htn (by rw [f17, f19, Int.toNat_of_nonneg hh.1]; exact hg.2.1) (by rw [f17, f20, Int.toNat_of_nonneg hx.1]; exact hg.2.2) (fun e => (hc1 _ (by omega) (by omega)).2.2) (by omega) (by omega) hv9 cr9) hs.1 (hs.lt 0 (by decide)) rfl oY_X0_countIfEasy oI_X0_countIfEasy lk_X0_51 rfl dX0_choose_125 rfl (Or.inl rfl) ?_
    refine g_ifeqB (tgt := 136) dX0_choose_128 rfl (fun h128 => ?_) (fun h128 => ?_)
    · refine g_iconst dX0_choose_136 ?_
      refine f_cS3d (putI hs.k5 (hs.lt 5 (by decide)) (by omega) (by omega)) oY_X5_put oT_X5_put lk_X0_39 rfl dX0_choose_137 rfl (Or.inl rfl) ?_
      refine g_iinc6 dX0_choose_140 rfl (by decide) ?_
      refine g_goto (tgt := 91) dX0_choose_143 rfl ?_
      refine ih (by omega) _ _ _ (by push_cast; omega) (fun a a2 a3 a4 a5 => by rw [up_n a5, ci_a a2 a3 a4]; exact hfr a a2 a3 a4 a5) (fun t a0 a1 => ?_) (fun q hq => ?_)
      · obtain ⟨b2, b3, b4⟩ := hc1 t a0 a1
        rw [up_n (by omega), up_n (by omega), up_n (by omega), ci_2 a0, ci_3 a0, ci_4 a0 b4 (fun e => by rw [e]), b2, b3]
        refine ⟨?_, rfl, ?_⟩
        · rw [cnI]
          unfold teP
          rw [Int.toNat_of_nonneg hh.1, Int.toNat_of_nonneg hx.1]
        · rw [limN]
          rw [Int.toNat_of_nonneg hh.1, Int.toNat_of_nonneg hx.1]
      · by_cases e9 : q = p
        · subst e9
          rw [up_eq]
          unfold teP
          rw [Int.toNat_of_nonneg hh.1, Int.toNat_of_nonneg hx.1] at h128
          first | rw [if_pos h128] | rw [if_neg h128]
        · rw [up_ne (by omega), ci_a (by omega) (by omega) (by omega)]
          exact hc5 q (by omega)
    · refine g_iload7 dX0_choose_131 ?_
      refine g_goto (tgt := 137) dX0_choose_133 rfl ?_
      refine f_cS3d (putI hs.k5 (hs.lt 5 (by decide)) (by omega) (by omega)) oY_X5_put oT_X5_put lk_X0_39 rfl dX0_choose_137 rfl (Or.inl rfl) ?_
      refine g_iinc6 dX0_choose_140 rfl (by decide) ?_
      refine g_goto (tgt := 91) dX0_choose_143 rfl ?_
      refine ih (by omega) _ _ _ (by push_cast; omega) (fun a a2 a3 a4 a5 => by rw [up_n a5, ci_a a2 a3 a4]; exact hfr a a2 a3 a4 a5) (fun t a0 a1 => ?_) (fun q hq => ?_)
      · obtain ⟨b2, b3, b4⟩ := hc1 t a0 a1
        rw [up_n (by omega), up_n (by omega), up_n (by omega), ci_2 a0, ci_3 a0, ci_4 a0 b4 (fun e => by rw [e]), b2, b3]
        refine ⟨?_, rfl, ?_⟩
        · rw [cnI]
          unfold teP
          rw [Int.toNat_of_nonneg hh.1, Int.toNat_of_nonneg hx.1]
        · rw [limN]
          rw [Int.toNat_of_nonneg hh.1, Int.toNat_of_nonneg hx.1]
      · by_cases e9 : q = p
        · subst e9
          rw [up_eq]
          unfold teP
          rw [Int.toNat_of_nonneg hh.1, Int.toNat_of_nonneg hx.1] at h128
          first | rw [if_pos h128] | rw [if_neg h128]
        · rw [up_ne (by omega), ci_a (by omega) (by omega) (by omega)]
          exact hc5 q (by omega)
theorem EL_lt {f : Int → Int} {t : Int} {n i q : Nat} (h : (EL f t n)[i]? = some q) : q < n ∧ f q = t ∧ (i : Int) < cnI f t n := by
  have h1 := List.mem_of_getElem? h
  unfold EL at h1
  rw [List.mem_filter, List.mem_range] at h1
  have h2 := (List.getElem?_eq_some_iff.mp h).1
  have h3 := EL_len f t n
  exact ⟨h1.1, by simpa using h1.2, by omega⟩
/-- what lies in a choice once it is made -/
def ChO (τ : sT) (o : Nat) (TE T : Int → Int) (c : Int) (N : Nat) : Prop :=
  (∀ t : Nat, t ≤ 25 → τ (o + 1) t = frI (fun z => cnI TE z N) t) ∧
  (∀ t : Nat, t < 25 → ∀ i q : Nat, (EL TE t N)[i]? = some q → τ (o + 6) (frI (fun z => cnI TE z N) t + i) = q ∧ τ (o + 7) (frI (fun z => cnI TE z N) t + i) = (cdP c q : Int)) ∧
  (∀ t, 0 ≤ t → t < 25 → τ (o + 3) t = cnI T t N) ∧
  ∀ t, 0 ≤ t → t < 25 → τ (o + 4) t = (limN T (fun p => hvF (fgF c p)) (fun p => crF (fgF c p)) t N : Int)
/-- the plays laid by their tones -/
theorem ch_place {k n o N C : Nat} {tol hv cr : Int} {TE : Int → Int} {Ψ : mO → sT → (Nat → Nat) → Prop} (hs : isCh o) (hN : (N : Int) = 2 * σ 17 0) (hc : 0 ≤ σ 17 0 ∧ σ 17 0 ≤ 2187 ∧ σ 17 0 ≤ C) (hFC : FCap l C) (hFG : FG σ C) (hTE : ∀ q : Nat, q < N → -1 ≤ TE q ∧ TE q < 25) (hln : N ≤ ln l (o + 5) ∧ N ≤ ln l (o + 6) ∧ N ≤ ln l (o + 7))
    (h1 : ∀ t : Nat, t ≤ 25 → σ (o + 1) t = frI (fun z => cnI TE z N) t) (h5 : ∀ q : Nat, q < N → σ (o + 5) q = TE q)
    (hΨ : ∀ τ : sT, (∀ a, a ≠ o + 2 → a ≠ o + 6 → a ≠ o + 7 → τ a = σ a) → (∀ t : Nat, t < 25 → ∀ i q : Nat, (EL TE t N)[i]? = some q → τ (o + 6) (frI (fun z => cnI TE z N) t + i) = q ∧ τ (o + 7) (frI (fun z => cnI TE z N) t + i) = (cdP (σ 17 0) q : Int)) → Ψ (.inl none) τ l) :
    ∀ p : Nat, p ≤ N → ∀ (i : Int) (τ : sT) (a7 : Option Value), i = (p : Int) → (∀ a, a ≠ o + 2 → a ≠ o + 6 → a ≠ o + 7 → τ a = σ a) → (∀ t : Nat, t < 25 → τ (o + 2) t = frI (fun z => cnI TE z N) t + cnI TE t p) → (∀ t : Nat, t < 25 → ∀ i q : Nat, (EL TE t p)[i]? = some q → τ (o + 6) (frI (fun z => cnI TE z N) t + i) = q ∧ τ (o + 7) (frI (fun z => cnI TE z N) t + i) = (cdP (σ 17 0) q : Int)) → FW g zX0_choose k n Ψ 153 [some (.ref o), some (.ref 17), some (iv tol), some (iv hv), some (iv cr), some (iv (N : Int)), some (iv i), a7] [] τ l := by
  have ho := hs.2.1
  have hpos : ∀ z, 0 ≤ (fun z => cnI TE z N) z := fun z => (cnI_rng TE z N).1
  refine loopUp N (fun p hp ih i τ a7 hi hfr hx hE => ?_)
  subst hi
  have f17 : τ 17 = σ 17 := hfr 17 (by omega) (by omega) (by omega)
  have f18 : τ 18 = σ 18 := hfr 18 (by omega) (by omega) (by omega)
  have f5 : τ (o + 5) = σ (o + 5) := hfr (o + 5) (by omega) (by omega) (by omega)
  refine g_iload6 dX0_choose_153 ?_
  refine g_iload5 dX0_choose_155 ?_
  refine g_icmp_ge ⟨by omega, by omega⟩ ⟨by omega, by omega⟩ (tgt := 182) dX0_choose_157 rfl (fun h157 => ?_) (fun h157 => ?_)
  · refine g_return rfl dX0_choose_182 ?_
    have e9 : p = N := by omega
    subst e9
    exact fn_ret (hΨ τ hfr hE)
  · have hr0 : 0 ≤ fgF (σ 17 0) p ∧ fgF (σ 17 0) p < σ 17 0 := by unfold fgF; split <;> omega
    have hg := hFG _ hr0.1 (by omega)
    have hTp := hTE p (by omega)
    have hb : TE p ≠ -1 → 0 ≤ τ (o + 2) (TE p) ∧ τ (o + 2) (TE p) < N := by
      intro e
      have e2 : TE p = ((TE p).toNat : Int) := by omega
      have e3 := hx (TE p).toNat (by omega)
      rw [← e2] at e3
      have e4 := frI_le TE N (TE p).toNat
      have e5 := cnI_rng TE (TE p) p
      have e6 := frI_le TE N ((TE p).toNat + 1)
      rw [frI_s, ← e2] at e6
      have e7 := cnI_mono TE (TE p) (show p + 1 ≤ N by omega)
      rw [cnI, if_pos rfl] at e7
      omega
    refine g_aload0 dX0_choose_160 ?_
    refine g_iload6 dX0_choose_161 ?_
    refine g_aload0 dX0_choose_163 ?_
    refine f_getr (r := o + 5) hs.1 (hs.lt 0 (by decide)) rfl rfl fl_X0_24 dX0_choose_164 ?_
    refine g_iload6 dX0_choose_167 ?_
    refine f_cS2w (atI hs.k5 (hs.lt 5 (by decide)) (by omega) (by omega)) oY_X5_at oT_X5_at lk_X0_58 rfl dX0_choose_169 rfl (Or.inl rfl) ?_
    rw [f5, h5 p (by omega)]
    refine g_aload1 dX0_choose_172 ?_
    refine f_cV3d (place_ok hs (by rw [f17, hFC.1]; omega) (by rw [f17]; omega) (by rw [f17, f18]; exact hg.1) hTp (fun e => ⟨(hb e).1, by have := (hb e).2; omega, by have := (hb e).2; omega⟩)) hs.1 (hs.lt 0 (by decide)) rfl oY_X0_place oI_X0_place lk_X0_62 rfl dX0_choose_173 rfl (Or.inl rfl) ?_
    rw [f17]
    refine g_iinc6 dX0_choose_176 rfl (by decide) ?_
    refine g_goto (tgt := 153) dX0_choose_179 rfl ?_
    refine ih (by omega) _ _ _ (by push_cast; omega) (fun a a2 a6 a7 => ?_) (fun t ht => ?_) (fun t ht j q hq => ?_)
    · unfold plS
      split
      · exact hfr a a2 a6 a7
      · rw [up_n a2, up_n a7, up_n a6]
        exact hfr a a2 a6 a7
    · rw [cnI]
      unfold plS
      by_cases e1 : TE p = -1
      · rw [if_pos e1, if_neg (show ¬ (TE p = (t : Int)) by omega)]
        rw [hx t ht]
        omega
      · rw [if_neg e1]
        by_cases e2 : TE p = (t : Int)
        · rw [if_pos e2, e2, up_eq, hx t ht]
          omega
        · rw [if_neg e2, up_ne (by omega), up_ne (by omega), up_ne (by omega), hx t ht]
          omega
    · rw [EL_succ] at hq
      unfold plS
      by_cases e1 : TE p = -1
      · rw [if_neg (show ¬ (TE p = (t : Int)) by omega), List.append_nil] at hq
        rw [if_pos e1]
        exact hE t ht j q hq
      · rw [if_neg e1]
        have e2 : TE p = ((TE p).toNat : Int) := by omega
        have e3 := hx (TE p).toNat (by omega)
        rw [← e2] at e3
        by_cases e4 : TE p = (t : Int)
        · rw [if_pos e4] at hq
          have hl := EL_len TE t p
          have e8 : (TE p).toNat = t := by omega
          rw [e8] at e3
          rw [e4] at e3 ⊢
          by_cases e5 : j < (EL TE t p).length
          · rw [List.getElem?_append_left e5] at hq
            have h9 := hE t ht j q hq
            simp (disch := omega) only [up_ne]
            exact h9
          · rw [List.getElem?_append_right (by omega)] at hq
            have e6 : j - (EL TE t p).length = 0 := by
              apply Decidable.byContradiction
              intro e7
              rw [List.getElem?_eq_none (by simp; omega)] at hq
              cases hq
            rw [e6] at hq
            cases hq
            have e7 : frI (fun z => cnI TE z N) t + (j : Int) = τ (o + 2) t := by omega
            rw [e7]
            simp (disch := omega) only [up_ne, up_eq]
            exact ⟨trivial, trivial⟩
        · rw [if_neg e4, List.append_nil] at hq
          have h9 := hE t ht j q hq
          have hl := (EL_lt hq).2.2
          have c1 := cnI_mono TE t (show p ≤ N by omega)
          have c2 := cnI_mono TE (TE p) (show p + 1 ≤ N by omega)
          rw [cnI, if_pos rfl] at c2
          have c3 := cnI_rng TE (TE p) p
          have hne : frI (fun z => cnI TE z N) t + (j : Int) ≠ τ (o + 2) (TE p) := by
            rw [e3]
            rcases Nat.lt_or_ge t (TE p).toNat with c4 | c4
            · have c5 := frI_mono hpos (show t + 1 ≤ (TE p).toNat by omega)
              rw [frI_s] at c5
              omega
            · have c5 := frI_mono hpos (show (TE p).toNat + 1 ≤ t by omega)
              rw [frI_s, ← e2] at c5
              omega
          simp (disch := omega) only [up_ne]
          exact h9
end C28
