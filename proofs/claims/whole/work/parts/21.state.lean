/-! Loops; the class's small functions; its State. -/
section C21
theorem loopUp {Q : Nat → Prop} (N : Nat) (step : ∀ k, k ≤ N → (k < N → Q (k + 1)) → Q k) : ∀ k, k ≤ N → Q k := by
  have h : ∀ m k, k + m = N → Q k := by
    intro m
    induction m with
    | zero => intro k hk; exact step k (by omega) (fun h => absurd h (by omega))
    | succ m ih => intro k hk; exact step k (by omega) (fun _ => ih (k + 1) (by omega))
  exact fun k hk => h (N - k) k (by omega)
theorem loopDn {Q : Nat → Prop} (step : ∀ k, (∀ j, k = j + 1 → Q j) → Q k) : ∀ k, Q k := by
  intro k
  induction k with
  | zero => exact step 0 (fun j h => by omega)
  | succ k ih => exact step (k + 1) (fun j h => by have : j = k := by omega
                                                   subst this; exact ih)
theorem GW_L {g : gT} {y : yT} {k n : Nat} {Φ : mO → mM → Prop} {pc : Nat} {L L' : List (Option Value)} {st : List Value} {M : mM} (e : L = L') (h : GW g y k n Φ pc L' st M) : GW g y k n Φ pc L st M := by rw [e]; exact h
def isSt (o : Nat) : Prop := kd o = 13 ∧ o + 3 < 110 ∧ kd (o + 1) = 0 ∧ kd (o + 2) = 0 ∧ kd (o + 3) = 0 ∧ (∀ l, ln l (o + 1) = 7) ∧ (∀ l, ln l (o + 2) = 7) ∧ (∀ l, ln l (o + 3) = 40) ∧ ownr o = none
theorem isSt.a {o : Nat} (h : isSt o) : o < 110 := Nat.lt_of_le_of_lt (Nat.le_add_right _ _) h.2.1
theorem isSt.b {o : Nat} (h : isSt o) : o + 1 < 110 := Nat.lt_of_le_of_lt (Nat.add_le_add_left (by decide) o) h.2.1
theorem isSt.c {o : Nat} (h : isSt o) : o + 2 < 110 := Nat.lt_of_le_of_lt (Nat.add_le_add_left (by decide) o) h.2.1
theorem isSt.d {o : Nat} (h : isSt o) : o + 3 < 110 := h.2.1
/-- bits of a number below 128 -/
def pc7 (x : Nat) : Nat := (x.testBit 0).toNat + (x.testBit 1).toNat + (x.testBit 2).toNat + (x.testBit 3).toNat + (x.testBit 4).toNat + (x.testBit 5).toNat + (x.testBit 6).toNat
theorem pc7_le (x : Nat) : pc7 x ≤ 7 := by
  unfold pc7
  have h : ∀ b : Bool, b.toNat ≤ 1 := by decide
  have h0 := h (x.testBit 0); have h1 := h (x.testBit 1); have h2 := h (x.testBit 2); have h3 := h (x.testBit 3); have h4 := h (x.testBit 4); have h5 := h (x.testBit 5); have h6 := h (x.testBit 6)
  omega
def bcF (x : Int32) : Int32 :=
  let a := x - ((x.toUInt32 >>> ((1 : Int32).toUInt32 &&& 31)).toInt32 &&& 1431655765)
  let b := (a &&& 858993459) + ((a.toUInt32 >>> ((2 : Int32).toUInt32 &&& 31)).toInt32 &&& 858993459)
  let c := (b + (b.toUInt32 >>> ((4 : Int32).toUInt32 &&& 31)).toInt32) &&& 252645135
  let d := c + (c.toUInt32 >>> ((8 : Int32).toUInt32 &&& 31)).toInt32
  let e := d + (d.toUInt32 >>> ((16 : Int32).toUInt32 &&& 31)).toInt32
  e &&& 63
theorem bcF_ok : ∀ x : Nat, x < 128 → bcF (Int32.ofInt (x : Int)) = Int32.ofInt (pc7 x : Int) := by decide +kernel
variable {g : gT} {σ : sT} {l : Nat → Nat}
theorem bitCount_ok {x : Nat} (hx : x < 128) : Fw g zJ6_bitCount_0f7a4 [iv (x : Int)] σ l (iv (pc7 x : Int)) := by
  refine Fn.of [some (iv (x : Int))] rfl (by decide) (Nat.le_of_ble_eq_true rfl) rfl ?_
  refine g_iload0 dJ6_bitCount_0f7a4_0 ?_
  refine g_iload0 dJ6_bitCount_0f7a4_1 ?_
  refine g_iconst dJ6_bitCount_0f7a4_2 ?_
  refine g_iushrR dJ6_bitCount_0f7a4_3 (fun v3 e3 => ?_)
  subst e3
  refine g_ldcw kc_J6_265 dJ6_bitCount_0f7a4_4 ?_
  refine g_iandR dJ6_bitCount_0f7a4_7 ?_
  refine g_isubR dJ6_bitCount_0f7a4_8 ?_
  refine g_istore0 dJ6_bitCount_0f7a4_9 (by decide) ?_
  refine g_iload0 dJ6_bitCount_0f7a4_10 ?_
  refine g_ldcw kc_J6_266 dJ6_bitCount_0f7a4_11 ?_
  refine g_iandR dJ6_bitCount_0f7a4_14 ?_
  refine g_iload0 dJ6_bitCount_0f7a4_15 ?_
  refine g_iconst dJ6_bitCount_0f7a4_16 ?_
  refine g_iushrR dJ6_bitCount_0f7a4_17 (fun v17 e17 => ?_)
  subst e17
  refine g_ldcw kc_J6_266 dJ6_bitCount_0f7a4_18 ?_
  refine g_iandR dJ6_bitCount_0f7a4_21 ?_
  refine g_iaddR dJ6_bitCount_0f7a4_22 ?_
  refine g_istore0 dJ6_bitCount_0f7a4_23 (by decide) ?_
  refine g_iload0 dJ6_bitCount_0f7a4_24 ?_
  refine g_iload0 dJ6_bitCount_0f7a4_25 ?_
  refine g_iconst dJ6_bitCount_0f7a4_26 ?_
  refine g_iushrR dJ6_bitCount_0f7a4_27 (fun v27 e27 => ?_)
  subst e27
  refine g_iaddR dJ6_bitCount_0f7a4_28 ?_
  refine g_ldcw kc_J6_267 dJ6_bitCount_0f7a4_29 ?_
  refine g_iandR dJ6_bitCount_0f7a4_32 ?_
  refine g_istore0 dJ6_bitCount_0f7a4_33 (by decide) ?_
  refine g_iload0 dJ6_bitCount_0f7a4_34 ?_
  refine g_iload0 dJ6_bitCount_0f7a4_35 ?_
  refine g_bipush dJ6_bitCount_0f7a4_36 (by decide) ?_
  refine g_iushrR dJ6_bitCount_0f7a4_38 (fun v38 e38 => ?_)
  subst e38
  refine g_iaddR dJ6_bitCount_0f7a4_39 ?_
  refine g_istore0 dJ6_bitCount_0f7a4_40 (by decide) ?_
  refine g_iload0 dJ6_bitCount_0f7a4_41 ?_
  refine g_iload0 dJ6_bitCount_0f7a4_42 ?_
  refine g_bipush dJ6_bitCount_0f7a4_43 (by decide) ?_
  refine g_iushrR dJ6_bitCount_0f7a4_45 (fun v45 e45 => ?_)
  subst e45
  refine g_iaddR dJ6_bitCount_0f7a4_46 ?_
  refine g_istore0 dJ6_bitCount_0f7a4_47 (by decide) ?_
  refine g_iload0 dJ6_bitCount_0f7a4_48 ?_
  refine g_bipush dJ6_bitCount_0f7a4_49 (by decide) ?_
  refine g_iandR dJ6_bitCount_0f7a4_51 ?_
  refine g_ireturn rfl rfl dJ6_bitCount_0f7a4_52 ?_
  exact Fw.retV (congrArg Value.int (bcF_ok x hx))
theorem isTone_ok {t : Int} (ht : R32 t) : Fw g zX5_isTone [iv t] σ l (bv (0 ≤ t ∧ t < 25)) := by
  refine Fn.of [some (iv t)] rfl (by decide) (Nat.le_of_ble_eq_true rfl) rfl ?_
  refine g_iload0 dX5_isTone_0 ?_
  refine g_if_lt ⟨by omega, by omega⟩ (tgt := 14) dX5_isTone_1 rfl (fun h1 => ?_) (fun h1 => ?_)
  · refine g_iconst dX5_isTone_14 ?_
    refine g_iretB (Or.inl rfl) rfl dX5_isTone_15 ?_
    exact Fw.ret0 (by omega)
  · refine g_iload0 dX5_isTone_4 ?_
    refine g_bipush dX5_isTone_5 (by decide) ?_
    refine g_icmp_ge ⟨by omega, by omega⟩ ⟨by omega, by omega⟩ (tgt := 14) dX5_isTone_7 rfl (fun h7 => ?_) (fun h7 => ?_)
    · refine g_iconst dX5_isTone_14 ?_
      refine g_iretB (Or.inl rfl) rfl dX5_isTone_15 ?_
      exact Fw.ret0 (by omega)
    · refine g_iconst dX5_isTone_10 ?_
      refine g_goto (tgt := 15) dX5_isTone_11 rfl ?_
      refine g_iretB (Or.inr rfl) rfl dX5_isTone_15 ?_
      exact Fw.ret1 (by omega)

def covC (p k : Int) : Int := quoF p (pw k) % 3
theorem pw_rng {k : Int} : 0 ≤ pw k ∧ pw k ≤ 2187 := by
  unfold pw
  split
  · rename_i h
    have h2 : ∀ j : Nat, j < 8 → ((3 ^ j : Nat) : Int) ≤ 2187 := by decide
    exact ⟨Int.natCast_nonneg _, h2 _ (by omega)⟩
  · omega
theorem quoF_rng {a b : Int} (ha : 0 ≤ a) : 0 ≤ quoF a b ∧ quoF a b ≤ a := by
  unfold quoF
  split
  · exact ⟨Int.ediv_nonneg ha (by omega), Int.ediv_le_self _ ha⟩
  · omega
theorem coverOf_ok {p k : Int} (hp : 0 ≤ p ∧ p ≤ 2147483647) (hk : R32 k) : Fw g zX5_coverOf [iv p, iv k] σ l (iv (covC p k)) := by
  refine Fn.of [some (iv p), some (iv k)] rfl (by decide) (Nat.le_of_ble_eq_true rfl) rfl ?_
  refine g_iload0 dX5_coverOf_0 ?_
  refine g_gets lf_X5_292 dX5_coverOf_1 ?_
  refine g_iload1 dX5_coverOf_4 ?_
  refine f_cS2w (atP_ok hk) oY_X5_at oT_X5_at lk_X5_164 rfl dX5_coverOf_5 rfl (Or.inl rfl) ?_
  refine f_cS2w (quotient_ok hp ⟨by have := @pw_rng k; omega, by have := @pw_rng k; omega⟩) oY_X5_quotient oT_X5_quotient lk_X5_338 rfl dX5_coverOf_8 rfl (Or.inl rfl) ?_
  refine g_iconst dX5_coverOf_11 ?_
  refine g_irem ⟨(quoF_rng hp.1).1, Int.le_trans (quoF_rng hp.1).2 hp.2⟩ (by decide) dX5_coverOf_12 ?_
  refine g_iretI rfl dX5_coverOf_13 ?_
  exact Fw.ret rfl

/-- the tone of some cents -/
def tonF (c tol : Int) : Int := if (c + 50) / 100 < 25 ∧ (if 0 ≤ c - 100 * ((c + 50) / 100) then c - 100 * ((c + 50) / 100) else -(c - 100 * ((c + 50) / 100))) ≤ tol then (c + 50) / 100 else -1
theorem toneOf_ok {c tol : Int} (hc : 0 ≤ c ∧ c ≤ 1000000) (ht : R32 tol) : Fw g zX5_toneOf [iv c, iv tol] σ l (iv (tonF c tol)) := by
  refine Fn.of [some (iv c), some (iv tol), none] rfl (by decide) (Nat.le_of_ble_eq_true rfl) rfl ?_
  refine g_iload0 dX5_toneOf_0 ?_
  refine g_bipush dX5_toneOf_1 (by decide) ?_
  refine g_iadd dX5_toneOf_3 ?_
  refine g_bipush dX5_toneOf_4 (by decide) ?_
  refine g_idiv (by omega) (by decide) dX5_toneOf_6 ?_
  refine g_istore2 dX5_toneOf_7 rfl (by decide) ?_
  refine g_iload2 dX5_toneOf_8 ?_
  refine f_cS1w (isTone_ok ⟨by omega, by omega⟩) oY_X5_isTone oT_X5_isTone lk_X5_289 rfl dX5_toneOf_9 rfl (Or.inl rfl) ?_
  refine g_ifeqB (tgt := 32) dX5_toneOf_12 rfl (fun h12 => ?_) (fun h12 => ?_)
  · refine g_iconst dX5_toneOf_32 ?_
    refine g_iretI rfl dX5_toneOf_33 ?_
    exact Fw.ret (by unfold tonF; first | rw [if_pos (by omega)] | rw [if_neg (by omega)])
  · refine g_iload0 dX5_toneOf_15 ?_
    refine g_bipush dX5_toneOf_16 (by decide) ?_
    refine g_iload2 dX5_toneOf_18 ?_
    refine g_imul dX5_toneOf_19 ?_
    refine g_isub dX5_toneOf_20 ?_
    refine g_mabs ⟨by omega, by omega⟩ ma_X5_211 ⟨by decide, Nat.le_of_ble_eq_true rfl⟩ dX5_toneOf_21 ?_
    refine g_iload1 dX5_toneOf_24 ?_
    refine g_icmp_gt ⟨by split <;> omega, by split <;> omega⟩ ht (tgt := 32) dX5_toneOf_25 rfl (fun h25 => ?_) (fun h25 => ?_)
    · refine g_iconst dX5_toneOf_32 ?_
      refine g_iretI rfl dX5_toneOf_33 ?_
      exact Fw.ret (by unfold tonF; first | rw [if_pos (by omega)] | rw [if_neg (by omega)])
    · refine g_iload2 dX5_toneOf_28 ?_
      refine g_goto (tgt := 33) dX5_toneOf_29 rfl ?_
      refine g_iretI rfl dX5_toneOf_33 ?_
      exact Fw.ret (by unfold tonF; first | rw [if_pos (by omega)] | rw [if_neg (by omega)])

def dfH (a b : Nat) : Nat := ((a ^^^ b) ||| (a ^^^ b) / 2 ^ 7) &&& 127
theorem differingHoles_ok {a b : Nat} (ha : a < 32768) (hb : b < 32768) : Fw g zX5_differingHoles [iv (a : Int), iv (b : Int)] σ l (iv (dfH a b : Int)) := by
  refine Fn.of [some (iv (a : Int)), some (iv (b : Int)), none] rfl (by decide) (Nat.le_of_ble_eq_true rfl) rfl ?_
  refine g_iload0 dX5_differingHoles_0 ?_
  refine g_iload1 dX5_differingHoles_1 ?_
  refine g_ixor dX5_differingHoles_2 ?_
  refine g_istore2 dX5_differingHoles_3 rfl (by decide) ?_
  refine g_iload2 dX5_differingHoles_4 ?_
  refine g_iload2 dX5_differingHoles_5 ?_
  refine g_bipush dX5_differingHoles_6 (by decide) ?_
  refine g_ishr ⟨by omega, by have := @Nat.xor_lt_two_pow a b 15 ha hb; omega⟩ (by decide) dX5_differingHoles_8 ?_
  rw [show ((a ^^^ b : Nat) : Int) / ((2 ^ 7 : Nat) : Int) = (((a ^^^ b) / 2 ^ 7 : Nat) : Int) from rfl]
  refine g_ior dX5_differingHoles_9 ?_
  refine g_bipush dX5_differingHoles_10 (by decide) ?_
  refine g_iand dX5_differingHoles_12 ?_
  refine g_iretI rfl dX5_differingHoles_13 ?_
  exact Fw.ret rfl

theorem fingeringCount_ok {o : Nat} (hs : isSt o) (hh : R32 (σ o 8)) : Fw g zX3_fingeringCount [.ref o] σ l (iv (pw (σ o 8))) := by
  refine Fn.of [some (.ref o)] rfl (by decide) (Nat.le_of_ble_eq_true rfl) rfl ?_
  refine g_gets lf_X3_73 dX3_fingeringCount_0 ?_
  refine g_aload0 dX3_fingeringCount_3 ?_
  refine f_geti (J := 8) hs.1 hs.a rfl rfl fl_X3_36 dX3_fingeringCount_4 ?_
  refine f_cS2w (atP_ok hh) oY_X5_at oT_X5_at lk_X3_65 rfl dX3_fingeringCount_7 rfl (Or.inl rfl) ?_
  refine g_iretI rfl dX3_fingeringCount_10 ?_
  exact Fw.ret rfl

theorem playCount_ok {o : Nat} (hs : isSt o) (hh : R32 (σ o 8)) : Fw g zX3_playCount [.ref o] σ l (iv (2 * pw (σ o 8))) := by
  refine Fn.of [some (.ref o)] rfl (by decide) (Nat.le_of_ble_eq_true rfl) rfl ?_
  refine g_iconst dX3_playCount_0 ?_
  refine g_aload0 dX3_playCount_1 ?_
  refine f_cV0w (fingeringCount_ok hs hh) hs.1 hs.a rfl oY_X3_fingeringCount oI_X3_fingeringCount lk_X3_76 rfl dX3_playCount_2 rfl (Or.inl rfl) ?_
  refine g_imul dX3_playCount_5 ?_
  refine g_iretI rfl dX3_playCount_6 ?_
  exact Fw.ret rfl

theorem isRest_ok {o : Nat} {i : Int} (hs : isSt o) (hi : 0 ≤ i ∧ i < 40) (ht : R32 (σ (o + 3) i)) : Fw g zX3_isRest [.ref o, iv i] σ l (bv (σ (o + 3) i = -1)) := by
  refine Fn.of [some (.ref o), some (iv i)] rfl (by decide) (Nat.le_of_ble_eq_true rfl) rfl ?_
  refine g_aload0 dX3_isRest_0 ?_
  refine f_getr (r := o + 3) hs.1 hs.a rfl rfl fl_X3_58 dX3_isRest_1 ?_
  refine g_iload1 dX3_isRest_4 ?_
  refine f_cS2w (atI hs.2.2.2.2.1 hs.d hi.1 (by rw [hs.2.2.2.2.2.2.2.1]; exact hi.2)) oY_X5_at oT_X5_at lk_X3_65 rfl dX3_isRest_5 rfl (Or.inl rfl) ?_
  refine g_iconst dX3_isRest_8 ?_
  refine g_icmp_ne ht ⟨by omega, by omega⟩ (tgt := 16) dX3_isRest_9 rfl (fun h9 => ?_) (fun h9 => ?_)
  · refine g_iconst dX3_isRest_16 ?_
    refine g_iretB (Or.inl rfl) rfl dX3_isRest_17 ?_
    exact Fw.ret0 (by omega)
  · refine g_iconst dX3_isRest_12 ?_
    refine g_goto (tgt := 17) dX3_isRest_13 rfl ?_
    refine g_iretB (Or.inr rfl) rfl dX3_isRest_17 ?_
    exact Fw.ret1 (by omega)

/-- how many of the first n are not -1 -/
def cntS (f : Int → Int) : Nat → Int
  | 0 => 0
  | n + 1 => cntS f n + (if f n = -1 then 0 else 1)
theorem cntS_rng (f : Int → Int) (n : Nat) : 0 ≤ cntS f n ∧ cntS f n ≤ n := by
  induction n with
  | zero => exact ⟨Int.le_refl _, Int.le_refl _⟩
  | succ n ih =>
    unfold cntS
    split <;> omega
theorem soundingNotes_ok {o N : Nat} (hs : isSt o) (hN : σ o 9 = N) (hN40 : N ≤ 40) (ht : ∀ i, 0 ≤ i → i < (N : Int) → R32 (σ (o + 3) i)) : Fw g zX3_soundingNotes [.ref o] σ l (iv (cntS (σ (o + 3)) N)) := by
  refine Fn.of [some (.ref o), none, none] rfl (by decide) (Nat.le_of_ble_eq_true rfl) rfl ?_
  have loop : ∀ k, k ≤ N → ∀ c i : Int, c = cntS (σ (o + 3)) k → i = (k : Int) → FW g zX3_soundingNotes 0 0 (fun q σ' l' => q = .inl (some (iv (cntS (σ (o + 3)) N))) ∧ σ' = σ ∧ l' = l) 4 [some (.ref o), some (iv c), some (iv i)] [] σ l := by
    refine loopUp N (fun k hk ih c i hc hi => ?_)
    subst hi
    refine g_iload2 dX3_soundingNotes_4 ?_
    refine g_aload0 dX3_soundingNotes_5 ?_
    refine f_geti (J := 9) hs.1 hs.a rfl rfl fl_X3_39 dX3_soundingNotes_6 ?_
    refine g_icmp_ge ⟨by omega, by omega⟩ ⟨by omega, by omega⟩ (tgt := 34) dX3_soundingNotes_9 rfl (fun h9 => ?_) (fun h9 => ?_)
    · refine g_iload1 dX3_soundingNotes_34 ?_
      refine g_iretI rfl dX3_soundingNotes_35 ?_
      exact Fw.ret (by rw [hc]; congr 1; omega)
    · refine g_iload1 dX3_soundingNotes_12 ?_
      refine g_aload0 dX3_soundingNotes_13 ?_
      refine g_iload2 dX3_soundingNotes_14 ?_
      refine f_cV1w (isRest_ok hs ⟨by omega, by omega⟩ (ht _ (by omega) (by omega))) hs.1 hs.a rfl oY_X3_isRest oI_X3_isRest lk_X3_80 rfl dX3_soundingNotes_15 rfl (Or.inl rfl) ?_
      refine g_ifeqB (tgt := 25) dX3_soundingNotes_18 rfl (fun h18 => ?_) (fun h18 => ?_)
      · refine g_iconst dX3_soundingNotes_25 ?_
        refine g_iadd dX3_soundingNotes_26 ?_
        refine g_istore1 dX3_soundingNotes_27 rfl (by decide) ?_
        refine g_iinc2 dX3_soundingNotes_28 rfl (by decide) ?_
        refine g_goto (tgt := 4) dX3_soundingNotes_31 rfl ?_
        exact ih (by omega) _ _ (by rw [hc, cntS]; first | rw [if_pos h18] | rw [if_neg h18]) (by push_cast; omega)
      · refine g_iconst dX3_soundingNotes_21 ?_
        refine g_goto (tgt := 26) dX3_soundingNotes_22 rfl ?_
        refine g_iadd dX3_soundingNotes_26 ?_
        refine g_istore1 dX3_soundingNotes_27 rfl (by decide) ?_
        refine g_iinc2 dX3_soundingNotes_28 rfl (by decide) ?_
        refine g_goto (tgt := 4) dX3_soundingNotes_31 rfl ?_
        exact ih (by omega) _ _ (by rw [hc, cntS]; first | rw [if_pos h18] | rw [if_neg h18]) (by push_cast; omega)
  refine g_iconst dX3_soundingNotes_0 ?_
  refine g_istore1 dX3_soundingNotes_1 rfl (by decide) ?_
  refine g_iconst dX3_soundingNotes_2 ?_
  refine g_istore2 dX3_soundingNotes_3 rfl (by decide) ?_
  exact loop 0 (Nat.zero_le _) _ _ rfl rfl
end C21
