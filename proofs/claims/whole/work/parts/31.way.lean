/-! Way: its small methods, pick -/
section C31
variable {g : gT} {σ : sT} {l : Nat → Nat}
def isWy (w : Nat) : Prop := kd w = 14 ∧ (w = 40 ∨ w = 46) ∧ kd (w + 1) = 0 ∧ kd (w + 2) = 0 ∧ kd (w + 3) = 0 ∧ kd (w + 4) = 0 ∧ kd (w + 5) = 0 ∧ (∀ l, ln l (w + 1) = 40) ∧ (∀ l, ln l (w + 2) = 40) ∧ (∀ l, ln l (w + 3) = 40) ∧ ownr w = none ∧ ownr (w + 4) = some (w, 4) ∧ ownr (w + 5) = some (w, 5)
theorem isWy40 : isWy 40 := ⟨rfl, Or.inl rfl, rfl, rfl, rfl, rfl, rfl, fun _ => rfl, fun _ => rfl, fun _ => rfl, rfl, rfl, rfl⟩
theorem isWy46 : isWy 46 := ⟨rfl, Or.inr rfl, rfl, rfl, rfl, rfl, rfl, fun _ => rfl, fun _ => rfl, fun _ => rfl, rfl, rfl, rfl⟩
theorem isWy.lt {w : Nat} (h : isWy w) (i : Nat) (hi : i ≤ 5) : w + i < 110 := by rcases h.2.1 with rfl | rfl <;> omega
theorem isWy.k1 {w : Nat} (h : isWy w) : kd (w + 1) = 0 := h.2.2.1
theorem isWy.k2 {w : Nat} (h : isWy w) : kd (w + 2) = 0 := h.2.2.2.1
theorem isWy.k3 {w : Nat} (h : isWy w) : kd (w + 3) = 0 := h.2.2.2.2.1
theorem isWy.k4 {w : Nat} (h : isWy w) : kd (w + 4) = 0 := h.2.2.2.2.2.1
theorem isWy.k5 {w : Nat} (h : isWy w) : kd (w + 5) = 0 := h.2.2.2.2.2.2.1
theorem isWy.n1 {w : Nat} (h : isWy w) (l : Nat → Nat) : ln l (w + 1) = 40 := h.2.2.2.2.2.2.2.1 l
theorem isWy.n2 {w : Nat} (h : isWy w) (l : Nat → Nat) : ln l (w + 2) = 40 := h.2.2.2.2.2.2.2.2.1 l
theorem isWy.n3 {w : Nat} (h : isWy w) (l : Nat → Nat) : ln l (w + 3) = 40 := h.2.2.2.2.2.2.2.2.2.1 l
theorem isWy.ow {w : Nat} (h : isWy w) : ownr w = none := h.2.2.2.2.2.2.2.2.2.2.1
theorem isWy.o4 {w : Nat} (h : isWy w) : ownr (w + 4) = some (w, 4) := h.2.2.2.2.2.2.2.2.2.2.2.1
theorem isWy.o5 {w : Nat} (h : isWy w) : ownr (w + 5) = some (w, 5) := h.2.2.2.2.2.2.2.2.2.2.2.2
theorem mul9 {m x : Int} (hm : 0 ≤ m ∧ m ≤ 9) (hx : -7 ≤ x ∧ x ≤ 7) : -63 ≤ m * x ∧ m * x ≤ 63 := by
  have h : m = 0 ∨ m = 1 ∨ m = 2 ∨ m = 3 ∨ m = 4 ∨ m = 5 ∨ m = 6 ∨ m = 7 ∨ m = 8 ∨ m = 9 := by omega
  rcases h with rfl | rfl | rfl | rfl | rfl | rfl | rfl | rfl | rfl | rfl <;> omega
theorem prC_rng {m h b : Int} {c d : Nat} (hm : 0 ≤ m ∧ m ≤ 9) (hh : 0 ≤ h ∧ h ≤ 9) (hb : 0 ≤ b ∧ b ≤ 9) : -200 ≤ prC m h b c d ∧ prC m h b c d ≤ 200 := by
  unfold prC
  have a1 := pc7_le (dfH c d)
  have a2 := pc7_le (dfH c d &&& (c ||| d))
  have a3 : (((c ^^^ d) / 2 ^ 14) &&& 1 : Nat) ≤ 1 := Nat.and_le_right
  have b1 := mul9 hm (x := (pc7 (dfH c d) : Int) - (pc7 (dfH c d &&& (c ||| d)) : Int)) (by omega)
  have b2 := mul9 hh (x := (pc7 (dfH c d &&& (c ||| d)) : Int)) (by omega)
  have b3 := mul9 hb (x := ((((c ^^^ d) / 2 ^ 14) &&& 1 : Nat) : Int)) (by omega)
  omega
theorem isChangeTo_ok {w : Nat} {j : Int} (hw : isWy w) (hj : 0 ≤ j ∧ j < 40) (hy1 : 0 < j → R32 (σ (w + 2) (j - 1))) (hy2 : R32 (σ (w + 2) j)) : Fw g zX4_isChangeTo [.ref w, iv j] σ l (bv (0 < j ∧ σ (w + 2) (j - 1) ≠ -1 ∧ σ (w + 2) j ≠ -1)) := by
  refine Fn.of [some (.ref w), some (iv j)] rfl (by decide) (Nat.le_of_ble_eq_true rfl) rfl ?_
  refine g_iload1 dX4_isChangeTo_0 ?_
  refine g_if_le ⟨by omega, by omega⟩ (tgt := 34) dX4_isChangeTo_1 rfl (fun h1 => ?_) (fun h1 => ?_)
  · refine g_iconst dX4_isChangeTo_34 ?_
    refine g_iretB (Or.inl rfl) rfl dX4_isChangeTo_35 ?_
    exact Fw.ret0 (by omega)
  · refine g_aload0 dX4_isChangeTo_4 ?_
    refine f_getr (r := w + 2) hw.1 (hw.lt 0 (by decide)) rfl rfl fl_X4_19 dX4_isChangeTo_5 ?_
    refine g_iload1 dX4_isChangeTo_8 ?_
    refine g_iconst dX4_isChangeTo_9 ?_
    refine g_isub dX4_isChangeTo_10 ?_
    refine f_cS2w (atI hw.k2 (hw.lt 2 (by decide)) (by omega) (by rw [hw.n2]; omega)) oY_X5_at oT_X5_at lk_X4_58 rfl dX4_isChangeTo_11 rfl (Or.inl rfl) ?_
    refine g_iconst dX4_isChangeTo_14 ?_
    refine g_icmp_eq (hy1 (by omega)) ⟨by omega, by omega⟩ (tgt := 34) dX4_isChangeTo_15 rfl (fun h15 => ?_) (fun h15 => ?_)
    · refine g_iconst dX4_isChangeTo_34 ?_
      refine g_iretB (Or.inl rfl) rfl dX4_isChangeTo_35 ?_
      exact Fw.ret0 (by omega)
    · refine g_aload0 dX4_isChangeTo_18 ?_
      refine f_getr (r := w + 2) hw.1 (hw.lt 0 (by decide)) rfl rfl fl_X4_19 dX4_isChangeTo_19 ?_
      refine g_iload1 dX4_isChangeTo_22 ?_
      refine f_cS2w (atI hw.k2 (hw.lt 2 (by decide)) (by omega) (by rw [hw.n2]; omega)) oY_X5_at oT_X5_at lk_X4_58 rfl dX4_isChangeTo_23 rfl (Or.inl rfl) ?_
      refine g_iconst dX4_isChangeTo_26 ?_
      refine g_icmp_eq hy2 ⟨by omega, by omega⟩ (tgt := 34) dX4_isChangeTo_27 rfl (fun h27 => ?_) (fun h27 => ?_)
      · refine g_iconst dX4_isChangeTo_34 ?_
        refine g_iretB (Or.inl rfl) rfl dX4_isChangeTo_35 ?_
        exact Fw.ret0 (by omega)
      · refine g_iconst dX4_isChangeTo_30 ?_
        refine g_goto (tgt := 35) dX4_isChangeTo_31 rfl ?_
        refine g_iretB (Or.inr rfl) rfl dX4_isChangeTo_35 ?_
        exact Fw.ret1 (by omega)

def ptF (m h b : Int) (cR : Int → Int) (j : Int) : Int := if 0 < j ∧ cR (j - 1) ≠ -1 ∧ cR j ≠ -1 then prC m h b (cR (j - 1)).toNat (cR j).toNat else 0
/-- a code, or none -/
def okCd (x : Int) : Prop := -1 ≤ x ∧ x < 32768
theorem priceTo_ok {w : Nat} {j : Int} (hw : isWy w) (hj : 0 ≤ j ∧ j < 40) (hy1 : 0 < j → okCd (σ (w + 2) (j - 1))) (hy2 : okCd (σ (w + 2) j)) : Fw g zX4_priceTo [.ref w, .ref 1, iv j] σ l (iv (ptF (σ 1 5) (σ 1 6) (σ 1 7) (σ (w + 2)) j)) := by
  refine Fn.of [some (.ref w), some (.ref 1), some (iv j)] rfl (by decide) (Nat.le_of_ble_eq_true rfl) rfl ?_
  refine g_aload0 dX4_priceTo_0 ?_
  refine g_iload2 dX4_priceTo_1 ?_
  refine f_cV1w (isChangeTo_ok hw hj (fun e => by have := hy1 e; unfold okCd at this; exact ⟨by omega, by omega⟩) (by unfold okCd at hy2; exact ⟨by omega, by omega⟩)) hw.1 (hw.lt 0 (by decide)) rfl oY_X4_isChangeTo oI_X4_isChangeTo lk_X4_134 rfl dX4_priceTo_2 rfl (Or.inl rfl) ?_
  refine g_ifeqB (tgt := 33) dX4_priceTo_5 rfl (fun h5 => ?_) (fun h5 => ?_)
  · refine g_iconst dX4_priceTo_33 ?_
    refine g_iretI rfl dX4_priceTo_34 ?_
    exact Fw.ret (by unfold ptF; first | rw [if_pos h5] | rw [if_neg h5])
  · refine g_aload1 dX4_priceTo_8 ?_
    refine g_aload0 dX4_priceTo_9 ?_
    refine f_getr (r := w + 2) hw.1 (hw.lt 0 (by decide)) rfl rfl fl_X4_19 dX4_priceTo_10 ?_
    refine g_iload2 dX4_priceTo_13 ?_
    refine g_iconst dX4_priceTo_14 ?_
    refine g_isub dX4_priceTo_15 ?_
    refine f_cS2w (atI hw.k2 (hw.lt 2 (by decide)) (by omega) (by rw [hw.n2]; omega)) oY_X5_at oT_X5_at lk_X4_58 rfl dX4_priceTo_16 rfl (Or.inl rfl) ?_
    refine g_aload0 dX4_priceTo_19 ?_
    refine f_getr (r := w + 2) hw.1 (hw.lt 0 (by decide)) rfl rfl fl_X4_19 dX4_priceTo_20 ?_
    refine g_iload2 dX4_priceTo_23 ?_
    refine f_cS2w (atI hw.k2 (hw.lt 2 (by decide)) (by omega) (by rw [hw.n2]; omega)) oY_X5_at oT_X5_at lk_X4_58 rfl dX4_priceTo_24 rfl (Or.inl rfl) ?_
    rw [show σ (w + 2) (j - 1) = ((σ (w + 2) (j - 1)).toNat : Int) from by have := hy1 (by omega); unfold okCd at this; omega, show σ (w + 2) j = ((σ (w + 2) j).toNat : Int) from by unfold okCd at hy2; omega]
    refine f_cV2w (priceOf_ok isSt1 (by have := hy1 (by omega); unfold okCd at this; omega) (by unfold okCd at hy2; omega)) rfl (by decide) rfl oY_X3_priceOf oI_X3_priceOf lk_X4_93 rfl dX4_priceTo_27 rfl (Or.inl rfl) ?_
    refine g_goto (tgt := 34) dX4_priceTo_30 rfl ?_
    refine g_iretI rfl dX4_priceTo_34 ?_
    exact Fw.ret (by unfold ptF; first | rw [if_pos h5] | rw [if_neg h5])

theorem firstOfA_ok {o : Nat} {t : Int} (hs : isCh o) (ht : R32 t) : Fw g zX0_firstOf [.ref o, iv t] σ l (iv (atF σ l (o + 1) t)) := by
  refine Fn.of [some (.ref o), some (iv t)] rfl (by decide) (Nat.le_of_ble_eq_true rfl) rfl ?_
  refine g_aload0 dX0_firstOf_0 ?_
  refine f_getr (r := o + 1) hs.1 (hs.lt 0 (by decide)) rfl rfl fl_X0_9 dX0_firstOf_1 ?_
  refine g_iload1 dX0_firstOf_4 ?_
  refine f_cS2w (at_ok hs.k1 (hs.lt 1 (by decide)) ht) oY_X5_at oT_X5_at lk_X0_58 rfl dX0_firstOf_5 rfl (Or.inl rfl) ?_
  refine g_iretI rfl dX0_firstOf_8 ?_
  exact Fw.ret rfl

/-- the first least of n: its place, itself -/
def pk (f : Nat → Int) : Nat → Int × Int
  | 0 => (-1, 2000000)
  | n + 1 => if f n < (pk f n).2 then ((n : Int), f n) else pk f n
theorem pkB_lt {f : Nat → Int} {n : Nat} (h : f n < (pk f n).2) : pk f (n + 1) = ((n : Int), f n) := if_pos h
theorem pkB_ge {f : Nat → Int} {n : Nat} (h : (pk f n).2 ≤ f n) : pk f (n + 1) = pk f n := if_neg (Int.not_lt.mpr h)
theorem pk_rng (f : Nat → Int) (n : Nat) (h : ∀ i, i < n → -1000 ≤ f i ∧ f i ≤ 1100000) : -1 ≤ (pk f n).1 ∧ (pk f n).1 < n ∧ -1000 ≤ (pk f n).2 ∧ (pk f n).2 ≤ 2000000 := by
  induction n with
  | zero => exact ⟨Int.le_refl _, by show (-1 : Int) < 0; decide, by show (-1000 : Int) ≤ 2000000; decide, by show (2000000 : Int) ≤ 2000000; decide⟩
  | succ n ih =>
    have h1 := ih (fun i hi => h i (by omega))
    have h2 := h n (by omega)
    unfold pk
    split
    · dsimp only; omega
    · omega
/-- what pick holds against the least: the cost ahead and the change -/
def pkf (m h b : Int) (ah : Int → Int) (rw_ : Int) (last : Int) (cd : Nat → Nat) (i : Nat) : Int := ah (rw_ + i) + (if last = -1 then 0 else prC m h b last.toNat (cd i))
theorem pick_ok {w o cnt : Nat} {j t last fs : Int} {cd : Nat → Nat} (hw : isWy w) (hs : isCh o) (hj : 0 ≤ j ∧ j < 40) (ht : R32 t) (hc : ctF (σ (o + 1)) t = (cnt : Int)) (hcn : cnt ≤ 4374) (hfs : atF σ l (o + 1) t = fs) (hfr : 0 ≤ fs ∧ fs ≤ 100000) (hla : okCd last) (hrw : 0 ≤ σ (w + 3) j ∧ σ (w + 3) j ≤ 1000000)
    (hm : 0 ≤ σ 1 5 ∧ σ 1 5 ≤ 9) (hh : 0 ≤ σ 1 6 ∧ σ 1 6 ≤ 9) (hb : 0 ≤ σ 1 7 ∧ σ 1 7 ≤ 9)
    (hcd : ∀ i : Nat, i < cnt → fs + i < (ln l (o + 7) : Int) ∧ σ (o + 7) (fs + i) = (cd i : Int) ∧ cd i < 32768) (hah : ∀ i : Nat, i < cnt → σ (w + 3) j + i < (ln l (w + 4) : Int) ∧ 0 ≤ σ (w + 4) (σ (w + 3) j + i) ∧ σ (w + 4) (σ (w + 3) j + i) ≤ 1000000) :
    Fw g zX4_pick [.ref w, .ref 1, .ref o, iv j, iv t, iv last] σ l (iv (if (pk (pkf (σ 1 5) (σ 1 6) (σ 1 7) (σ (w + 4)) (σ (w + 3) j) last cd) cnt).1 = -1 then -1 else fs + (pk (pkf (σ 1 5) (σ 1 6) (σ 1 7) (σ (w + 4)) (σ (w + 3) j) last cd) cnt).1)) := by
  refine Fn.of [some (.ref w), some (.ref 1), some (.ref o), some (iv j), some (iv t), some (iv last), none, none, none, none, none, none] rfl (by decide) (Nat.le_of_ble_eq_true rfl) rfl ?_
  have hpf : ∀ i, i < cnt → -1000 ≤ pkf (σ 1 5) (σ 1 6) (σ 1 7) (σ (w + 4)) (σ (w + 3) j) last cd i ∧ pkf (σ 1 5) (σ 1 6) (σ 1 7) (σ (w + 4)) (σ (w + 3) j) last cd i ≤ 1100000 := by
    intro i hi
    have a1 := hah i hi
    have a2 := prC_rng (c := last.toNat) (d := cd i) hm hh hb
    unfold pkf
    split <;> omega
  have loop : ∀ k, k ≤ cnt → ∀ (i be le : Int) (a11 : Option Value), i = (k : Int) → be = (if (pk (pkf (σ 1 5) (σ 1 6) (σ 1 7) (σ (w + 4)) (σ (w + 3) j) last cd) k).1 = -1 then -1 else fs + (pk (pkf (σ 1 5) (σ 1 6) (σ 1 7) (σ (w + 4)) (σ (w + 3) j) last cd) k).1) → le = (pk (pkf (σ 1 5) (σ 1 6) (σ 1 7) (σ (w + 4)) (σ (w + 3) j) last cd) k).2 → FW g zX4_pick 0 0 (fun q σ' l' => q = .inl (some (iv (if (pk (pkf (σ 1 5) (σ 1 6) (σ 1 7) (σ (w + 4)) (σ (w + 3) j) last cd) cnt).1 = -1 then -1 else fs + (pk (pkf (σ 1 5) (σ 1 6) (σ 1 7) (σ (w + 4)) (σ (w + 3) j) last cd) cnt).1))) ∧ σ' = σ ∧ l' = l) 26 [some (.ref w), some (.ref 1), some (.ref o), some (iv j), some (iv t), some (iv last), some (iv fs), some (iv (cnt : Int)), some (iv be), some (iv le), some (iv i), a11] [] σ l := by
    refine loopUp cnt (fun k hk ih i be le a11 hi hbe hle => ?_)
    subst hi
    have hpr := pk_rng _ k (fun i hi => hpf i (by omega))
    refine g_iload10 dX4_pick_26 ?_
    refine g_iload7 dX4_pick_28 ?_
    refine g_icmp_ge ⟨by omega, by omega⟩ ⟨by omega, by omega⟩ (tgt := 106) dX4_pick_30 rfl (fun h30 => ?_) (fun h30 => ?_)
    · refine g_iload8 dX4_pick_106 ?_
      refine g_iretI rfl dX4_pick_108 ?_
      have e9 : k = cnt := by omega
      subst e9
      exact Fw.ret hbe
    · have hak := hah k (by omega)
      have hpk := hpf k (by omega)
      have hlo : -1 ≤ last ∧ last < 32768 := hla
      have hpC := prC_rng (c := last.toNat) (d := cd k) hm hh hb
      refine g_aload0 dX4_pick_33 ?_
      refine f_getr (r := w + 4) hw.1 (hw.lt 0 (by decide)) rfl rfl fl_X4_25 dX4_pick_34 ?_
      refine g_aload0 dX4_pick_37 ?_
      refine f_getr (r := w + 3) hw.1 (hw.lt 0 (by decide)) rfl rfl fl_X4_22 dX4_pick_38 ?_
      refine g_iload3 dX4_pick_41 ?_
      refine f_cS2w (atI hw.k3 (hw.lt 3 (by decide)) (by omega) (by rw [hw.n3]; omega)) oY_X5_at oT_X5_at lk_X4_58 rfl dX4_pick_42 rfl (Or.inl rfl) ?_
      refine g_iload10 dX4_pick_45 ?_
      refine g_iadd dX4_pick_47 ?_
      refine f_cS2w (atI hw.k4 (hw.lt 4 (by decide)) (by omega) (hah k (by omega)).1) oY_X5_at oT_X5_at lk_X4_58 rfl dX4_pick_48 rfl (Or.inl rfl) ?_
      refine g_istore11 dX4_pick_51 rfl (by decide) ?_
      refine g_iload5 dX4_pick_53 ?_
      refine g_iconst dX4_pick_55 ?_
      refine g_icmp_eq ⟨by omega, by omega⟩ ⟨by omega, by omega⟩ (tgt := 82) dX4_pick_56 rfl (fun h56 => ?_) (fun h56 => ?_)
      · first
          | rw [show σ (w + 4) (σ (w + 3) j + (k : Int)) = pkf (σ 1 5) (σ 1 6) (σ 1 7) (σ (w + 4)) (σ (w + 3) j) last cd k from by unfold pkf; rw [if_pos h56]; omega]
          | rw [show σ (w + 4) (σ (w + 3) j + (k : Int)) + prC (σ 1 5) (σ 1 6) (σ 1 7) lc (cd k) = pkf (σ 1 5) (σ 1 6) (σ 1 7) (σ (w + 4)) (σ (w + 3) j) lc cd k from by unfold pkf; rw [if_neg h56, Int.toNat_natCast]]
        refine g_iload11 dX4_pick_82 ?_
        refine g_iload9 dX4_pick_84 ?_
        refine g_icmp_ge ⟨by omega, by omega⟩ ⟨by omega, by omega⟩ (tgt := 100) dX4_pick_86 rfl (fun h86 => ?_) (fun h86 => ?_)
        · refine g_iinc10 dX4_pick_100 rfl (by decide) ?_
          refine g_goto (tgt := 26) dX4_pick_103 rfl ?_
          first
            | refine ih (by omega) _ _ _ _ (by push_cast; omega) (by rw [pkB_lt (f := pkf (σ 1 5) (σ 1 6) (σ 1 7) (σ (w + 4)) (σ (w + 3) j) last cd) (n := k) (by omega)]; dsimp only; rw [if_neg (by omega)]) (by rw [pkB_lt (f := pkf (σ 1 5) (σ 1 6) (σ 1 7) (σ (w + 4)) (σ (w + 3) j) last cd) (n := k) (by omega)])
            | refine ih (by omega) _ _ _ _ (by push_cast; omega) (by rw [pkB_ge (f := pkf (σ 1 5) (σ 1 6) (σ 1 7) (σ (w + 4)) (σ (w + 3) j) last cd) (n := k) (by omega)]; exact hbe) (by rw [pkB_ge (f := pkf (σ 1 5) (σ 1 6) (σ 1 7) (σ (w + 4)) (σ (w + 3) j) last cd) (n := k) (by omega)]; exact hle)
            | refine ih (by omega) _ _ _ _ (by push_cast; omega) (by rw [pkB_lt (f := pkf (σ 1 5) (σ 1 6) (σ 1 7) (σ (w + 4)) (σ (w + 3) j) lc cd) (n := k) (by omega)]; dsimp only; rw [if_neg (by omega)]) (by rw [pkB_lt (f := pkf (σ 1 5) (σ 1 6) (σ 1 7) (σ (w + 4)) (σ (w + 3) j) lc cd) (n := k) (by omega)])
            | refine ih (by omega) _ _ _ _ (by push_cast; omega) (by rw [pkB_ge (f := pkf (σ 1 5) (σ 1 6) (σ 1 7) (σ (w + 4)) (σ (w + 3) j) lc cd) (n := k) (by omega)]; exact hbe) (by rw [pkB_ge (f := pkf (σ 1 5) (σ 1 6) (σ 1 7) (σ (w + 4)) (σ (w + 3) j) lc cd) (n := k) (by omega)]; exact hle)
        · refine g_iload11 dX4_pick_89 ?_
          refine g_istore9 dX4_pick_91 rfl (by decide) ?_
          refine g_iload6 dX4_pick_93 ?_
          refine g_iload10 dX4_pick_95 ?_
          refine g_iadd dX4_pick_97 ?_
          refine g_istore8 dX4_pick_98 rfl (by decide) ?_
          refine g_iinc10 dX4_pick_100 rfl (by decide) ?_
          refine g_goto (tgt := 26) dX4_pick_103 rfl ?_
          first
            | refine ih (by omega) _ _ _ _ (by push_cast; omega) (by rw [pkB_lt (f := pkf (σ 1 5) (σ 1 6) (σ 1 7) (σ (w + 4)) (σ (w + 3) j) last cd) (n := k) (by omega)]; dsimp only; rw [if_neg (by omega)]) (by rw [pkB_lt (f := pkf (σ 1 5) (σ 1 6) (σ 1 7) (σ (w + 4)) (σ (w + 3) j) last cd) (n := k) (by omega)])
            | refine ih (by omega) _ _ _ _ (by push_cast; omega) (by rw [pkB_ge (f := pkf (σ 1 5) (σ 1 6) (σ 1 7) (σ (w + 4)) (σ (w + 3) j) last cd) (n := k) (by omega)]; exact hbe) (by rw [pkB_ge (f := pkf (σ 1 5) (σ 1 6) (σ 1 7) (σ (w + 4)) (σ (w + 3) j) last cd) (n := k) (by omega)]; exact hle)
            | refine ih (by omega) _ _ _ _ (by push_cast; omega) (by rw [pkB_lt (f := pkf (σ 1 5) (σ 1 6) (σ 1 7) (σ (w + 4)) (σ (w + 3) j) lc cd) (n := k) (by omega)]; dsimp only; rw [if_neg (by omega)]) (by rw [pkB_lt (f := pkf (σ 1 5) (σ 1 6) (σ 1 7) (σ (w + 4)) (σ (w + 3) j) lc cd) (n := k) (by omega)])
            | refine ih (by omega) _ _ _ _ (by push_cast; omega) (by rw [pkB_ge (f := pkf (σ 1 5) (σ 1 6) (σ 1 7) (σ (w + 4)) (σ (w + 3) j) lc cd) (n := k) (by omega)]; exact hbe) (by rw [pkB_ge (f := pkf (σ 1 5) (σ 1 6) (σ 1 7) (σ (w + 4)) (σ (w + 3) j) lc cd) (n := k) (by omega)]; exact hle)
      · obtain ⟨lc, hlc⟩ : ∃ lc : Nat, last = (lc : Int) := ⟨last.toNat, by omega⟩
        subst hlc
        refine g_iload11 dX4_pick_59 ?_
        refine g_aload1 dX4_pick_61 ?_
        refine g_iload5 dX4_pick_62 ?_
        refine g_aload2 dX4_pick_64 ?_
        refine f_getr (r := o + 7) hs.1 (hs.lt 0 (by decide)) rfl rfl fl_X4_91 dX4_pick_65 ?_
        refine g_iload6 dX4_pick_68 ?_
        refine g_iload10 dX4_pick_70 ?_
        refine g_iadd dX4_pick_72 ?_
        refine f_cS2w (atI hs.k7 (hs.lt 7 (by decide)) (by omega) (hcd k (by omega)).1) oY_X5_at oT_X5_at lk_X4_58 rfl dX4_pick_73 rfl (Or.inl rfl) ?_
        rw [(hcd k (by omega)).2.1]
        refine f_cV2w (priceOf_ok isSt1 (by omega) (hcd k (by omega)).2.2) rfl (by decide) rfl oY_X3_priceOf oI_X3_priceOf lk_X4_93 rfl dX4_pick_76 rfl (Or.inl rfl) ?_
        refine g_iadd dX4_pick_79 ?_
        refine g_istore11 dX4_pick_80 rfl (by decide) ?_
        first
          | rw [show σ (w + 4) (σ (w + 3) j + (k : Int)) = pkf (σ 1 5) (σ 1 6) (σ 1 7) (σ (w + 4)) (σ (w + 3) j) last cd k from by unfold pkf; rw [if_pos h56]; omega]
          | rw [show σ (w + 4) (σ (w + 3) j + (k : Int)) + prC (σ 1 5) (σ 1 6) (σ 1 7) lc (cd k) = pkf (σ 1 5) (σ 1 6) (σ 1 7) (σ (w + 4)) (σ (w + 3) j) lc cd k from by unfold pkf; rw [if_neg h56, Int.toNat_natCast]]
        refine g_iload11 dX4_pick_82 ?_
        refine g_iload9 dX4_pick_84 ?_
        refine g_icmp_ge ⟨by omega, by omega⟩ ⟨by omega, by omega⟩ (tgt := 100) dX4_pick_86 rfl (fun h86 => ?_) (fun h86 => ?_)
        · refine g_iinc10 dX4_pick_100 rfl (by decide) ?_
          refine g_goto (tgt := 26) dX4_pick_103 rfl ?_
          first
            | refine ih (by omega) _ _ _ _ (by push_cast; omega) (by rw [pkB_lt (f := pkf (σ 1 5) (σ 1 6) (σ 1 7) (σ (w + 4)) (σ (w + 3) j) last cd) (n := k) (by omega)]; dsimp only; rw [if_neg (by omega)]) (by rw [pkB_lt (f := pkf (σ 1 5) (σ 1 6) (σ 1 7) (σ (w + 4)) (σ (w + 3) j) last cd) (n := k) (by omega)])
            | refine ih (by omega) _ _ _ _ (by push_cast; omega) (by rw [pkB_ge (f := pkf (σ 1 5) (σ 1 6) (σ 1 7) (σ (w + 4)) (σ (w + 3) j) last cd) (n := k) (by omega)]; exact hbe) (by rw [pkB_ge (f := pkf (σ 1 5) (σ 1 6) (σ 1 7) (σ (w + 4)) (σ (w + 3) j) last cd) (n := k) (by omega)]; exact hle)
            | refine ih (by omega) _ _ _ _ (by push_cast; omega) (by rw [pkB_lt (f := pkf (σ 1 5) (σ 1 6) (σ 1 7) (σ (w + 4)) (σ (w + 3) j) lc cd) (n := k) (by omega)]; dsimp only; rw [if_neg (by omega)]) (by rw [pkB_lt (f := pkf (σ 1 5) (σ 1 6) (σ 1 7) (σ (w + 4)) (σ (w + 3) j) lc cd) (n := k) (by omega)])
            | refine ih (by omega) _ _ _ _ (by push_cast; omega) (by rw [pkB_ge (f := pkf (σ 1 5) (σ 1 6) (σ 1 7) (σ (w + 4)) (σ (w + 3) j) lc cd) (n := k) (by omega)]; exact hbe) (by rw [pkB_ge (f := pkf (σ 1 5) (σ 1 6) (σ 1 7) (σ (w + 4)) (σ (w + 3) j) lc cd) (n := k) (by omega)]; exact hle)
        · refine g_iload11 dX4_pick_89 ?_
          refine g_istore9 dX4_pick_91 rfl (by decide) ?_
          refine g_iload6 dX4_pick_93 ?_
          refine g_iload10 dX4_pick_95 ?_
          refine g_iadd dX4_pick_97 ?_
          refine g_istore8 dX4_pick_98 rfl (by decide) ?_
          refine g_iinc10 dX4_pick_100 rfl (by decide) ?_
          refine g_goto (tgt := 26) dX4_pick_103 rfl ?_
          first
            | refine ih (by omega) _ _ _ _ (by push_cast; omega) (by rw [pkB_lt (f := pkf (σ 1 5) (σ 1 6) (σ 1 7) (σ (w + 4)) (σ (w + 3) j) last cd) (n := k) (by omega)]; dsimp only; rw [if_neg (by omega)]) (by rw [pkB_lt (f := pkf (σ 1 5) (σ 1 6) (σ 1 7) (σ (w + 4)) (σ (w + 3) j) last cd) (n := k) (by omega)])
            | refine ih (by omega) _ _ _ _ (by push_cast; omega) (by rw [pkB_ge (f := pkf (σ 1 5) (σ 1 6) (σ 1 7) (σ (w + 4)) (σ (w + 3) j) last cd) (n := k) (by omega)]; exact hbe) (by rw [pkB_ge (f := pkf (σ 1 5) (σ 1 6) (σ 1 7) (σ (w + 4)) (σ (w + 3) j) last cd) (n := k) (by omega)]; exact hle)
            | refine ih (by omega) _ _ _ _ (by push_cast; omega) (by rw [pkB_lt (f := pkf (σ 1 5) (σ 1 6) (σ 1 7) (σ (w + 4)) (σ (w + 3) j) lc cd) (n := k) (by omega)]; dsimp only; rw [if_neg (by omega)]) (by rw [pkB_lt (f := pkf (σ 1 5) (σ 1 6) (σ 1 7) (σ (w + 4)) (σ (w + 3) j) lc cd) (n := k) (by omega)])
            | refine ih (by omega) _ _ _ _ (by push_cast; omega) (by rw [pkB_ge (f := pkf (σ 1 5) (σ 1 6) (σ 1 7) (σ (w + 4)) (σ (w + 3) j) lc cd) (n := k) (by omega)]; exact hbe) (by rw [pkB_ge (f := pkf (σ 1 5) (σ 1 6) (σ 1 7) (σ (w + 4)) (σ (w + 3) j) lc cd) (n := k) (by omega)]; exact hle)
  refine g_aload2 dX4_pick_0 ?_
  refine g_iload4 dX4_pick_1 ?_
  refine f_cV1w (firstOfA_ok hs ht) hs.1 (hs.lt 0 (by decide)) rfl oY_X0_firstOf oI_X0_firstOf lk_X4_88 rfl dX4_pick_3 rfl (Or.inl rfl) ?_
  rw [hfs]
  refine g_istore6 dX4_pick_6 rfl (by decide) ?_
  refine g_aload2 dX4_pick_8 ?_
  refine g_iload4 dX4_pick_9 ?_
  refine f_cV1w (countOf_ok hs ht) hs.1 (hs.lt 0 (by decide)) rfl oY_X0_countOf oI_X0_countOf lk_X4_62 rfl dX4_pick_11 rfl (Or.inl rfl) ?_
  rw [hc]
  refine g_istore7 dX4_pick_14 rfl (by decide) ?_
  refine g_iconst dX4_pick_16 ?_
  refine g_istore8 dX4_pick_17 rfl (by decide) ?_
  refine g_ldc (v := Int32.ofInt (2000000)) kc_X4_133 dX4_pick_19 ?_
  refine g_istore9 dX4_pick_21 rfl (by decide) ?_
  refine g_iconst dX4_pick_23 ?_
  refine g_istore10 dX4_pick_24 rfl (by decide) ?_
  exact loop 0 (Nat.zero_le _) _ _ _ _ rfl rfl rfl
end C31
