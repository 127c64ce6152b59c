/-! Loops; the class's small functions; its State. -/
section C21
theorem loopUp {Q : Nat → Prop} (N : Nat) (step : ∀ k, k ≤ N → (k < N → Q (k + 1)) → Q k) : ∀ k, k ≤ N → Q k := by
  have h : ∀ m k, k + m = N → Q k := by
    intro m
    induction m with
    | zero => intro k hk; exact step k (by omega) (fun h => absurd h (by omega))
    | succ m ih => intro k hk; exact step k (by omega) (fun _ => ih (k + 1) (by omega))
  exact fun k hk => h (N - k) k (by omega)
theorem loopDn {Q : Nat → Prop} (step : ∀ k, (∀ j, k = j + 1 → Q j) → Q k) : ∀ k, Q k := by
  intro k
  induction k with
  | zero => exact step 0 (fun j h => by omega)
  | succ k ih => exact step (k + 1) (fun j h => by have : j = k := by omega
                                                   subst this; exact ih)
theorem GW_L {g : gT} {y : yT} {k n : Nat} {Φ : mO → mM → Prop} {pc : Nat} {L L' : List (Option Value)} {st : List Value} {M : mM} (e : L = L') (h : GW g y k n Φ pc L' st M) : GW g y k n Φ pc L st M := by rw [e]; exact h
def isSt (o : Nat) : Prop := kd o = 13 ∧ o + 3 < 110 ∧ kd (o + 1) = 0 ∧ kd (o + 2) = 0 ∧ kd (o + 3) = 0 ∧ (∀ l, ln l (o + 1) = 7) ∧ (∀ l, ln l (o + 2) = 7) ∧ (∀ l, ln l (o + 3) = 40) ∧ ownr o = none
theorem isSt.a {o : Nat} (h : isSt o) : o < 110 := Nat.lt_of_le_of_lt (Nat.le_add_right _ _) h.2.1
theorem isSt.b {o : Nat} (h : isSt o) : o + 1 < 110 := Nat.lt_of_le_of_lt (Nat.add_le_add_left (by decide) o) h.2.1
theorem isSt.c {o : Nat} (h : isSt o) : o + 2 < 110 := Nat.lt_of_le_of_lt (Nat.add_le_add_left (by decide) o) h.2.1
theorem isSt.d {o : Nat} (h : isSt o) : o + 3 < 110 := h.2.1
/-- bits of a number below 128 -/
def pc7 (x : Nat) : Nat := (x.testBit 0).toNat + (x.testBit 1).toNat + (x.testBit 2).toNat + (x.testBit 3).toNat + (x.testBit 4).toNat + (x.testBit 5).toNat + (x.testBit 6).toNat
theorem pc7_le (x : Nat) : pc7 x ≤ 7 := by
  unfold pc7
  have h : ∀ b : Bool, b.toNat ≤ 1 := by decide
  have h0 := h (x.testBit 0); have h1 := h (x.testBit 1); have h2 := h (x.testBit 2); have h3 := h (x.testBit 3); have h4 := h (x.testBit 4); have h5 := h (x.testBit 5); have h6 := h (x.testBit 6)
  omega
def bcF (x : Int32) : Int32 :=
  let a := x - ((x.toUInt32 >>> ((1 : Int32).toUInt32 &&& 31)).toInt32 &&& 1431655765)
  let b := (a &&& 858993459) + ((a.toUInt32 >>> ((2 : Int32).toUInt32 &&& 31)).toInt32 &&& 858993459)
  let c := (b + (b.toUInt32 >>> ((4 : Int32).toUInt32 &&& 31)).toInt32) &&& 252645135
  let d := c + (c.toUInt32 >>> ((8 : Int32).toUInt32 &&& 31)).toInt32
  let e := d + (d.toUInt32 >>> ((16 : Int32).toUInt32 &&& 31)).toInt32
  e &&& 63
theorem bcF_ok : ∀ x : Nat, x < 128 → bcF (Int32.ofInt (x : Int)) = Int32.ofInt (pc7 x : Int) := by decide +kernel
variable {g : gT} {σ : sT} {l : Nat → Nat}
theorem bitCount_ok {x : Nat} (hx : x < 128) : Fw g zJ6_bitCount_0f7a4 [iv (x : Int)] σ l (iv (pc7 x : Int)) := by
  refine Fn.of [some (iv (x : Int))] rfl (by decide) (Nat.le_of_ble_eq_true rfl) rfl ?_
  refine g_iload0 dJ6_bitCount_0f7a4_0 ?_
  refine g_iload0 dJ6_bitCount_0f7a4_1 ?_
  refine g_iconst dJ6_bitCount_0f7a4_2 ?_
  refine g_iushrR dJ6_bitCount_0f7a4_3 (fun v3 e3 => ?_)
  subst e3
  refine g_ldcw kc_J6_265 dJ6_bitCount_0f7a4_4 ?_
  refine g_iandR dJ6_bitCount_0f7a4_7 ?_
  refine g_isubR dJ6_bitCount_0f7a4_8 ?_
  refine g_istore0 dJ6_bitCount_0f7a4_9 (by decide) ?_
  refine g_iload0 dJ6_bitCount_0f7a4_10 ?_
  refine g_ldcw kc_J6_266 dJ6_bitCount_0f7a4_11 ?_
  refine g_iandR dJ6_bitCount_0f7a4_14 ?_
  refine g_iload0 dJ6_bitCount_0f7a4_15 ?_
  refine g_iconst dJ6_bitCount_0f7a4_16 ?_
  refine g_iushrR dJ6_bitCount_0f7a4_17 (fun v17 e17 => ?_)
  subst e17
  refine g_ldcw kc_J6_266 dJ6_bitCount_0f7a4_18 ?_
  refine g_iandR dJ6_bitCount_0f7a4_21 ?_
  refine g_iaddR dJ6_bitCount_0f7a4_22 ?_
  refine g_istore0 dJ6_bitCount_0f7a4_23 (by decide) ?_
  refine g_iload0 dJ6_bitCount_0f7a4_24 ?_
  refine g_iload0 dJ6_bitCount_0f7a4_25 ?_
  refine g_iconst dJ6_bitCount_0f7a4_26 ?_
  refine g_iushrR dJ6_bitCount_0f7a4_27 (fun v27 e27 => ?_)
  subst e27
  refine g_iaddR dJ6_bitCount_0f7a4_28 ?_
  refine g_ldcw kc_J6_267 dJ6_bitCount_0f7a4_29 ?_
  refine g_iandR dJ6_bitCount_0f7a4_32 ?_
  refine g_istore0 dJ6_bitCount_0f7a4_33 (by decide) ?_
  refine g_iload0 dJ6_bitCount_0f7a4_34 ?_
  refine g_iload0 dJ6_bitCount_0f7a4_35 ?_
  refine g_bipush dJ6_bitCount_0f7a4_36 (by decide) ?_
  refine g_iushrR dJ6_bitCount_0f7a4_38 (fun v38 e38 => ?_)
  subst e38
  refine g_iaddR dJ6_bitCount_0f7a4_39 ?_
  refine g_istore0 dJ6_bitCount_0f7a4_40 (by decide) ?_
  refine g_iload0 dJ6_bitCount_0f7a4_41 ?_
  refine g_iload0 dJ6_bitCount_0f7a4_42 ?_
  refine g_bipush dJ6_bitCount_0f7a4_43 (by decide) ?_
  refine g_iushrR dJ6_bitCount_0f7a4_45 (fun v45 e45 => ?_)
  subst e45
  refine g_iaddR dJ6_bitCount_0f7a4_46 ?_
  refine g_istore0 dJ6_bitCount_0f7a4_47 (by decide) ?_
  refine g_iload0 dJ6_bitCount_0f7a4_48 ?_
  refine g_bipush dJ6_bitCount_0f7a4_49 (by decide) ?_
  refine g_iandR dJ6_bitCount_0f7a4_51 ?_
  refine g_ireturn rfl rfl dJ6_bitCount_0f7a4_52 ?_
  exact Fw.retV (congrArg Value.int (bcF_ok x hx))
theorem isTone_ok {t : Int} (ht : R32 t) : Fw g zX5_isTone [iv t] σ l (bv (0 ≤ t ∧ t < 25)) := by
  refine Fn.of [some (iv t)] rfl (by decide) (Nat.le_of_ble_eq_true rfl) rfl ?_
  refine g_iload0 dX5_isTone_0 ?_
  refine g_if_lt ⟨by omega, by omega⟩ (tgt := 14) dX5_isTone_1 rfl (fun h1 => ?_) (fun h1 => ?_)
  · refine g_iconst dX5_isTone_14 ?_
    refine g_iretB (Or.inl rfl) rfl dX5_isTone_15 ?_
    exact Fw.ret0 (by omega)
  · refine g_iload0 dX5_isTone_4 ?_
    refine g_bipush dX5_isTone_5 (by decide) ?_
    refine g_icmp_ge ⟨by omega, by omega⟩ ⟨by omega, by omega⟩ (tgt := 14) dX5_isTone_7 rfl (fun h7 => ?_) (fun h7 => ?_)
    · refine g_iconst dX5_isTone_14 ?_
      refine g_iretB (Or.inl rfl) rfl dX5_isTone_15 ?_
      exact Fw.ret0 (by omega)
    · refine g_iconst dX5_isTone_10 ?_
      refine g_goto (tgt := 15) dX5_isTone_11 rfl ?_
      refine g_iretB (Or.inr rfl) rfl dX5_isTone_15 ?_
      exact Fw.ret1 (by omega)

def covC (p k : Int) : Int := quoF p (pw k) % 3
theorem pw_rng {k : Int} : 0 ≤ pw k ∧ pw k ≤ 2187 := by
  unfold pw
  split
  · rename_i h
    have h2 : ∀ j : Nat, j < 8 → ((3 ^ j : Nat) : Int) ≤ 2187 := by decide
    exact ⟨Int.natCast_nonneg _, h2 _ (by omega)⟩
  · omega
theorem quoF_rng {a b : Int} (ha : 0 ≤ a) : 0 ≤ quoF a b ∧ quoF a b ≤ a := by
  unfold quoF
  split
  · exact ⟨Int.ediv_nonneg ha (by omega), Int.ediv_le_self _ ha⟩
  · omega
theorem coverOf_ok {p k : Int} (hp : 0 ≤ p ∧ p ≤ 2147483647) (hk : R32 k) : Fw g zX5_coverOf [iv p, iv k] σ l (iv (covC p k)) := by
  refine Fn.of [some (iv p), some (iv k)] rfl (by decide) (Nat.le_of_ble_eq_true rfl) rfl ?_
  refine g_iload0 dX5_coverOf_0 ?_
  refine g_gets lf_X5_293 dX5_coverOf_1 ?_
  refine g_iload1 dX5_coverOf_4 ?_
  refine f_cS2w (atP_ok hk) oY_X5_at oT_X5_at lk_X5_164 rfl dX5_coverOf_5 rfl (Or.inl rfl) ?_
  refine f_cS2w (quotient_ok hp ⟨by have := @pw_rng k; omega, by have := @pw_rng k; omega⟩) oY_X5_quotient oT_X5_quotient lk_X5_336 rfl dX5_coverOf_8 rfl (Or.inl rfl) ?_
  refine g_iconst dX5_coverOf_11 ?_
  refine g_irem ⟨(quoF_rng hp.1).1, Int.le_trans (quoF_rng hp.1).2 hp.2⟩ (by decide) dX5_coverOf_12 ?_
  refine g_iretI rfl dX5_coverOf_13 ?_
  exact Fw.ret rfl

/-- the tone of some cents -/
def tonF (c tol : Int) : Int := if (c + 50) / 100 < 25 ∧ (if 0 ≤ c - 100 * ((c + 50) / 100) then c - 100 * ((c + 50) / 100) else -(c - 100 * ((c + 50) / 100))) ≤ tol then (c + 50) / 100 else -1
theorem toneOf_ok {c tol : Int} (hc : 0 ≤ c ∧ c ≤ 1000000) (ht : R32 tol) : Fw g zX5_toneOf [iv c, iv tol] σ l (iv (tonF c tol)) := by
  refine Fn.of [some (iv c), some (iv tol), none] rfl (by decide) (Nat.le_of_ble_eq_true rfl) rfl ?_
  refine g_iload0 dX5_toneOf_0 ?_
  refine g_bipush dX5_toneOf_1 (by decide) ?_
  refine g_iadd dX5_toneOf_3 ?_
  refine g_bipush dX5_toneOf_4 (by decide) ?_
  refine g_idiv (by omega) (by decide) dX5_toneOf_6 ?_
  refine g_istore2 dX5_toneOf_7 rfl (by decide) ?_
  refine g_iload2 dX5_toneOf_8 ?_
  refine f_cS1w (isTone_ok ⟨by omega, by omega⟩) oY_X5_isTone oT_X5_isTone lk_X5_290 rfl dX5_toneOf_9 rfl (Or.inl rfl) ?_
  refine g_ifeqB (tgt := 32) dX5_toneOf_12 rfl (fun h12 => ?_) (fun h12 => ?_)
  · refine g_iconst dX5_toneOf_32 ?_
    refine g_iretI rfl dX5_toneOf_33 ?_
    exact Fw.ret (by unfold tonF; first | rw [if_pos (by omega)] | rw [if_neg (by omega)])
  · refine g_iload0 dX5_toneOf_15 ?_
    refine g_bipush dX5_toneOf_16 (by decide) ?_
    refine g_iload2 dX5_toneOf_18 ?_
    refine g_imul dX5_toneOf_19 ?_
    refine g_isub dX5_toneOf_20 ?_
    refine g_mabs ⟨by omega, by omega⟩ ma_X5_211 ⟨by decide, Nat.le_of_ble_eq_true rfl⟩ dX5_toneOf_21 ?_
    refine g_iload1 dX5_toneOf_24 ?_
    refine g_icmp_gt ⟨by split <;> omega, by split <;> omega⟩ ht (tgt := 32) dX5_toneOf_25 rfl (fun h25 => ?_) (fun h25 => ?_)
    · refine g_iconst dX5_toneOf_32 ?_
      refine g_iretI rfl dX5_toneOf_33 ?_
      exact Fw.ret (by unfold tonF; first | rw [if_pos (by omega)] | rw [if_neg (by omega)])
    · refine g_iload2 dX5_toneOf_28 ?_
      refine g_goto (tgt := 33) dX5_toneOf_29 rfl ?_
      refine g_iretI rfl dX5_toneOf_33 ?_
      exact Fw.ret (by unfold tonF; first | rw [if_pos (by omega)] | rw [if_neg (by omega)])

def dfH (a b : Nat) : Nat := ((a ^^^ b) ||| (a ^^^ b) / 2 ^ 7) &&& 127
theorem g_ishrN {y : yT} {k n : Nat} {Φ : mO → mM → Prop} {pc : Nat} {L : List (Option Value)} {st : List Value} {M : mM} {a b : Nat} (ha : a < 2147483648) (hb : b < 32) (hd : decode (yB y) pc = .ok (.ishr, 1)) (h : GW g y k n Φ (pc + 1) L (iv ((a / 2 ^ b : Nat) : Int) :: st) M) : GW g y k n Φ pc L (iv (b : Int) :: iv (a : Int) :: st) M :=
  g_ishr ⟨by omega, by omega⟩ hb hd h
theorem xor15 {a b : Nat} (ha : a < 32768) (hb : b < 32768) : a ^^^ b < 32768 := Nat.xor_lt_two_pow (n := 15) ha hb
theorem or15 {a b : Nat} (ha : a < 32768) (hb : b < 32768) : a ||| b < 32768 := Nat.or_lt_two_pow (n := 15) ha hb
theorem dfH_lt (a b : Nat) : dfH a b < 128 := Nat.lt_of_le_of_lt Nat.and_le_right (by decide)
theorem differingHoles_ok {a b : Nat} (ha : a < 32768) (hb : b < 32768) : Fw g zX5_differingHoles [iv (a : Int), iv (b : Int)] σ l (iv (dfH a b : Int)) := by
  refine Fn.of [some (iv (a : Int)), some (iv (b : Int)), none] rfl (by decide) (Nat.le_of_ble_eq_true rfl) rfl ?_
  refine g_iload0 dX5_differingHoles_0 ?_
  refine g_iload1 dX5_differingHoles_1 ?_
  refine g_ixor dX5_differingHoles_2 ?_
  refine g_istore2 dX5_differingHoles_3 rfl (by decide) ?_
  refine g_iload2 dX5_differingHoles_4 ?_
  refine g_iload2 dX5_differingHoles_5 ?_
  refine g_bipush dX5_differingHoles_6 (by decide) ?_
  refine g_ishrN (by have := xor15 ha hb; omega) (by decide) dX5_differingHoles_8 ?_
  refine g_ior dX5_differingHoles_9 ?_
  refine g_bipush dX5_differingHoles_10 (by decide) ?_
  refine g_iand dX5_differingHoles_12 ?_
  refine g_iretI rfl dX5_differingHoles_13 ?_
  exact Fw.ret rfl

theorem fingeringCount_ok {o : Nat} (hs : isSt o) (hh : R32 (σ o 8)) : Fw g zX3_fingeringCount [.ref o] σ l (iv (pw (σ o 8))) := by
  refine Fn.of [some (.ref o)] rfl (by decide) (Nat.le_of_ble_eq_true rfl) rfl ?_
  refine g_gets lf_X3_73 dX3_fingeringCount_0 ?_
  refine g_aload0 dX3_fingeringCount_3 ?_
  refine f_geti (J := 8) hs.1 hs.a rfl rfl fl_X3_36 dX3_fingeringCount_4 ?_
  refine f_cS2w (atP_ok hh) oY_X5_at oT_X5_at lk_X3_65 rfl dX3_fingeringCount_7 rfl (Or.inl rfl) ?_
  refine g_iretI rfl dX3_fingeringCount_10 ?_
  exact Fw.ret rfl

theorem playCount_ok {o : Nat} (hs : isSt o) (hh : R32 (σ o 8)) : Fw g zX3_playCount [.ref o] σ l (iv (2 * pw (σ o 8))) := by
  refine Fn.of [some (.ref o)] rfl (by decide) (Nat.le_of_ble_eq_true rfl) rfl ?_
  refine g_iconst dX3_playCount_0 ?_
  refine g_gets lf_X3_73 dX3_playCount_1 ?_
  refine g_aload0 dX3_playCount_4 ?_
  refine f_geti (J := 8) hs.1 hs.a rfl rfl fl_X3_36 dX3_playCount_5 ?_
  refine f_cS2w (atP_ok hh) oY_X5_at oT_X5_at lk_X3_65 rfl dX3_playCount_8 rfl (Or.inl rfl) ?_
  refine g_imul dX3_playCount_11 ?_
  refine g_iretI rfl dX3_playCount_12 ?_
  exact Fw.ret rfl

theorem isRest_ok {o : Nat} {i : Int} (hs : isSt o) (hi : 0 ≤ i ∧ i < 40) (ht : R32 (σ (o + 3) i)) : Fw g zX3_isRest [.ref o, iv i] σ l (bv (σ (o + 3) i = -1)) := by
  refine Fn.of [some (.ref o), some (iv i)] rfl (by decide) (Nat.le_of_ble_eq_true rfl) rfl ?_
  refine g_aload0 dX3_isRest_0 ?_
  refine f_getr (r := o + 3) hs.1 hs.a rfl rfl fl_X3_58 dX3_isRest_1 ?_
  refine g_iload1 dX3_isRest_4 ?_
  refine f_cS2w (atI hs.2.2.2.2.1 hs.d hi.1 (by rw [hs.2.2.2.2.2.2.2.1]; exact hi.2)) oY_X5_at oT_X5_at lk_X3_65 rfl dX3_isRest_5 rfl (Or.inl rfl) ?_
  refine g_iconst dX3_isRest_8 ?_
  refine g_icmp_ne ht ⟨by omega, by omega⟩ (tgt := 16) dX3_isRest_9 rfl (fun h9 => ?_) (fun h9 => ?_)
  · refine g_iconst dX3_isRest_16 ?_
    refine g_iretB (Or.inl rfl) rfl dX3_isRest_17 ?_
    exact Fw.ret0 (by omega)
  · refine g_iconst dX3_isRest_12 ?_
    refine g_goto (tgt := 17) dX3_isRest_13 rfl ?_
    refine g_iretB (Or.inr rfl) rfl dX3_isRest_17 ?_
    exact Fw.ret1 (by omega)

/-- how many of the first n are not -1 -/
def cntS (f : Int → Int) : Nat → Int
  | 0 => 0
  | n + 1 => cntS f n + (if f n = -1 then 0 else 1)
theorem cntS_rng (f : Int → Int) (n : Nat) : 0 ≤ cntS f n ∧ cntS f n ≤ n := by
  induction n with
  | zero => exact ⟨Int.le_refl _, Int.le_refl _⟩
  | succ n ih =>
    unfold cntS
    split <;> omega
theorem soundingNotes_ok {o N : Nat} (hs : isSt o) (hN : σ o 9 = N) (hN40 : N ≤ 40) (ht : ∀ i, 0 ≤ i → i < (N : Int) → R32 (σ (o + 3) i)) : Fw g zX3_soundingNotes [.ref o] σ l (iv (cntS (σ (o + 3)) N)) := by
  refine Fn.of [some (.ref o), none, none] rfl (by decide) (Nat.le_of_ble_eq_true rfl) rfl ?_
  have loop : ∀ k, k ≤ N → ∀ c i : Int, c = cntS (σ (o + 3)) k → i = (k : Int) → FW g zX3_soundingNotes 0 0 (fun q σ' l' => q = .inl (some (iv (cntS (σ (o + 3)) N))) ∧ σ' = σ ∧ l' = l) 4 [some (.ref o), some (iv c), some (iv i)] [] σ l := by
    refine loopUp N (fun k hk ih c i hc hi => ?_)
    subst hi
    refine g_iload2 dX3_soundingNotes_4 ?_
    refine g_aload0 dX3_soundingNotes_5 ?_
    refine f_geti (J := 9) hs.1 hs.a rfl rfl fl_X3_39 dX3_soundingNotes_6 ?_
    refine g_icmp_ge ⟨by omega, by omega⟩ ⟨by omega, by omega⟩ (tgt := 34) dX3_soundingNotes_9 rfl (fun h9 => ?_) (fun h9 => ?_)
    · refine g_iload1 dX3_soundingNotes_34 ?_
      refine g_iretI rfl dX3_soundingNotes_35 ?_
      exact Fw.ret (by rw [hc]; congr 1; omega)
    · refine g_iload1 dX3_soundingNotes_12 ?_
      refine g_aload0 dX3_soundingNotes_13 ?_
      refine g_iload2 dX3_soundingNotes_14 ?_
      refine f_cV1w (isRest_ok hs ⟨by omega, by omega⟩ (ht _ (by omega) (by omega))) hs.1 hs.a rfl oY_X3_isRest oI_X3_isRest lk_X3_76 rfl dX3_soundingNotes_15 rfl (Or.inl rfl) ?_
      refine g_ifeqB (tgt := 25) dX3_soundingNotes_18 rfl (fun h18 => ?_) (fun h18 => ?_)
      · refine g_iconst dX3_soundingNotes_25 ?_
        refine g_iadd dX3_soundingNotes_26 ?_
        refine g_istore1 dX3_soundingNotes_27 rfl (by decide) ?_
        refine g_iinc2 dX3_soundingNotes_28 rfl (by decide) ?_
        refine g_goto (tgt := 4) dX3_soundingNotes_31 rfl ?_
        exact ih (by omega) _ _ (by rw [hc, cntS]; first | rw [if_pos h18] | rw [if_neg h18]) (by push_cast; omega)
      · refine g_iconst dX3_soundingNotes_21 ?_
        refine g_goto (tgt := 26) dX3_soundingNotes_22 rfl ?_
        refine g_iadd dX3_soundingNotes_26 ?_
        refine g_istore1 dX3_soundingNotes_27 rfl (by decide) ?_
        refine g_iinc2 dX3_soundingNotes_28 rfl (by decide) ?_
        refine g_goto (tgt := 4) dX3_soundingNotes_31 rfl ?_
        exact ih (by omega) _ _ (by rw [hc, cntS]; first | rw [if_pos h18] | rw [if_neg h18]) (by push_cast; omega)
  refine g_iconst dX3_soundingNotes_0 ?_
  refine g_istore1 dX3_soundingNotes_1 rfl (by decide) ?_
  refine g_iconst dX3_soundingNotes_2 ?_
  refine g_istore2 dX3_soundingNotes_3 rfl (by decide) ?_
  exact loop 0 (Nat.zero_le _) _ _ rfl rfl
/-- the price of a change between two codes -/
def prC (m h b : Int) (c d : Nat) : Int := m * ((pc7 (dfH c d) : Int) - (pc7 (dfH c d &&& (c ||| d)) : Int)) + h * (pc7 (dfH c d &&& (c ||| d)) : Int) + b * ((((c ^^^ d) / 2 ^ 14) &&& 1 : Nat) : Int)
theorem priceOf_ok {o c d : Nat} (hs : isSt o) (hc : c < 32768) (hd : d < 32768) : Fw g zX3_priceOf [.ref o, iv (c : Int), iv (d : Int)] σ l (iv (prC (σ o 5) (σ o 6) (σ o 7) c d)) := by
  refine Fn.of [some (.ref o), some (iv (c : Int)), some (iv (d : Int)), none, none, none] rfl (by decide) (Nat.le_of_ble_eq_true rfl) rfl ?_
  refine g_iload1 dX3_priceOf_0 ?_
  refine g_iload2 dX3_priceOf_1 ?_
  refine f_cS2w (differingHoles_ok hc hd) oY_X5_differingHoles oT_X5_differingHoles lk_X3_80 rfl dX3_priceOf_2 rfl (Or.inl rfl) ?_
  refine g_istore3 dX3_priceOf_5 rfl (by decide) ?_
  refine g_iload3 dX3_priceOf_6 ?_
  refine g_iload1 dX3_priceOf_7 ?_
  refine g_iload2 dX3_priceOf_8 ?_
  refine g_ior dX3_priceOf_9 ?_
  refine g_iand dX3_priceOf_10 ?_
  refine f_cS1w (bitCount_ok (Nat.lt_of_le_of_lt Nat.and_le_left (dfH_lt c d))) oY_J6_bitCount_0f7a4 oT_J6_bitCount_0f7a4 lk_X3_84 rfl dX3_priceOf_11 rfl (Or.inl rfl) ?_
  refine g_istore4 dX3_priceOf_14 rfl (by decide) ?_
  refine g_iload3 dX3_priceOf_16 ?_
  refine f_cS1w (bitCount_ok (dfH_lt c d)) oY_J6_bitCount_0f7a4 oT_J6_bitCount_0f7a4 lk_X3_84 rfl dX3_priceOf_17 rfl (Or.inl rfl) ?_
  refine g_iload4 dX3_priceOf_20 ?_
  refine g_isub dX3_priceOf_22 ?_
  refine g_istore5 dX3_priceOf_23 rfl (by decide) ?_
  refine g_aload0 dX3_priceOf_25 ?_
  refine f_geti (J := 5) hs.1 hs.a rfl rfl fl_X3_27 dX3_priceOf_26 ?_
  refine g_iload5 dX3_priceOf_29 ?_
  refine g_imul dX3_priceOf_31 ?_
  refine g_aload0 dX3_priceOf_32 ?_
  refine f_geti (J := 6) hs.1 hs.a rfl rfl fl_X3_30 dX3_priceOf_33 ?_
  refine g_iload4 dX3_priceOf_36 ?_
  refine g_imul dX3_priceOf_38 ?_
  refine g_iadd dX3_priceOf_39 ?_
  refine g_aload0 dX3_priceOf_40 ?_
  refine f_geti (J := 7) hs.1 hs.a rfl rfl fl_X3_33 dX3_priceOf_41 ?_
  refine g_iload1 dX3_priceOf_44 ?_
  refine g_iload2 dX3_priceOf_45 ?_
  refine g_ixor dX3_priceOf_46 ?_
  refine g_bipush dX3_priceOf_47 (by decide) ?_
  refine g_ishrN (by have := xor15 hc hd; omega) (by decide) dX3_priceOf_49 ?_
  refine g_iconst dX3_priceOf_50 ?_
  refine g_iand dX3_priceOf_51 ?_
  refine g_imul dX3_priceOf_52 ?_
  refine g_iadd dX3_priceOf_53 ?_
  refine g_iretI rfl dX3_priceOf_54 ?_
  exact Fw.ret rfl

/-- the first c numbers of row f put into row t -/
def cpR (σ : sT) (f t : Nat) (c : Int) : sT := fun a b => if a = t ∧ 0 ≤ b ∧ b < c then σ f b else σ a b
theorem cpR_0 (σ : sT) (f t : Nat) : cpR σ f t 0 = σ := by
  funext a b
  unfold cpR
  rw [if_neg (by omega)]
theorem cpR_up {σ : sT} {f t : Nat} {k : Nat} (hne : f ≠ t) : up (cpR σ f t k) t k (cpR σ f t k f k) = cpR σ f t (k + 1 : Nat) := by
  funext a b
  unfold up cpR
  rw [if_neg (fun q : f = t ∧ _ => hne q.1)]
  by_cases h1 : a = t
  · by_cases h2 : b = k
    · rw [if_pos ⟨h1, h2⟩, if_pos ⟨h1, by omega, by omega⟩, h2]
    · rw [if_neg (fun q => h2 q.2)]
      by_cases h3 : 0 ≤ b ∧ b < k
      · rw [if_pos ⟨h1, h3⟩, if_pos ⟨h1, by omega, by omega⟩]
      · rw [if_neg (fun q => h3 q.2), if_neg (fun q => h3 ⟨q.2.1, by omega⟩)]
  · rw [if_neg (fun q => h1 q.1), if_neg (fun q => h1 q.1), if_neg (fun q => h1 q.1)]
theorem copyRow_ok {f t N : Nat} (hkf : kd f = 0) (hf : f < 110) (hkt : kd t = 0) (ht : t < 110) (hne : f ≠ t) (hlf : N ≤ ln l f) (hlt : N ≤ ln l t) : FO g zX3_copyRow [.ref f, .ref t, iv (N : Int)] σ l (cpR σ f t N) := by
  have hN := ln_le l f
  refine Fn.of [some (.ref f), some (.ref t), some (iv (N : Int)), none] rfl (by decide) (Nat.le_of_ble_eq_true rfl) rfl ?_
  have loop : ∀ k, k ≤ N → ∀ (i : Int) (τ : sT), i = (k : Int) → τ = cpR σ f t k → FW g zX3_copyRow 0 0 (fun q σ' l' => q = .inl none ∧ σ' = cpR σ f t N ∧ l' = l) 2 [some (.ref f), some (.ref t), some (iv (N : Int)), some (iv i)] [] τ l := by
    refine loopUp N (fun k hk ih i τ hi hτ => ?_)
    subst hi
    refine g_iload3 dX3_copyRow_2 ?_
    refine g_iload2 dX3_copyRow_3 ?_
    refine g_icmp_ge ⟨by omega, by omega⟩ ⟨by omega, by omega⟩ (tgt := 23) dX3_copyRow_4 rfl (fun h4 => ?_) (fun h4 => ?_)
    · refine g_return rfl dX3_copyRow_23 ?_
      exact FO.ret (by rw [hτ]; congr 1; omega)
    · refine g_aload1 dX3_copyRow_7 ?_
      refine g_iload3 dX3_copyRow_8 ?_
      refine g_aload0 dX3_copyRow_9 ?_
      refine g_iload3 dX3_copyRow_10 ?_
      refine f_cS2w (atI hkf hf (by omega) (by omega)) oY_X5_at oT_X5_at lk_X3_65 rfl dX3_copyRow_11 rfl (Or.inl rfl) ?_
      refine f_cS3d (putI hkt ht (by omega) (by omega)) oY_X5_put oT_X5_put lk_X3_69 rfl dX3_copyRow_14 rfl (Or.inl rfl) ?_
      refine g_iinc3 dX3_copyRow_17 rfl (by decide) ?_
      refine g_goto (tgt := 2) dX3_copyRow_20 rfl ?_
      exact ih (by omega) _ _ (by push_cast; omega) (by rw [hτ, cpR_up hne])
  refine g_iconst dX3_copyRow_0 ?_
  refine g_istore3 dX3_copyRow_1 rfl (by decide) ?_
  exact loop 0 (Nat.zero_le _) _ _ rfl (cpR_0 σ f t).symm
/-- state p put into state o -/
def cpSt (σ : sT) (p o : Nat) : sT := fun a b => if a = o then (if 0 ≤ b ∧ b < 13 then σ p b else σ o b) else if a = o + 1 then (if 0 ≤ b ∧ b < σ p 8 then σ (p + 1) b else σ a b) else if a = o + 2 then (if 0 ≤ b ∧ b < σ p 8 then σ (p + 2) b else σ a b) else if a = o + 3 then (if 0 ≤ b ∧ b < σ p 9 then σ (p + 3) b else σ a b) else σ a b
def cp13 (σ : sT) (p o : Nat) (n : Int) : sT := fun a b => if a = o ∧ 0 ≤ b ∧ b < n then σ p b else σ a b
theorem cp13_0 (σ : sT) (p o : Nat) : cp13 σ p o 0 = σ := by
  funext a b; unfold cp13; rw [if_neg (by omega)]
theorem cp13_up {σ : sT} {p o : Nat} {n : Int} (hn : 0 ≤ n) : up (cp13 σ p o n) o n (σ p n) = cp13 σ p o (n + 1) := by
  funext a b
  unfold up cp13
  by_cases h1 : a = o
  · by_cases h2 : b = n
    · rw [if_pos ⟨h1, h2⟩, if_pos ⟨h1, by omega, by omega⟩, h2]
    · rw [if_neg (fun q => h2 q.2)]
      by_cases h3 : 0 ≤ b ∧ b < n
      · rw [if_pos ⟨h1, h3⟩, if_pos ⟨h1, by omega, by omega⟩]
      · rw [if_neg (fun q => h3 q.2), if_neg (fun q => h3 ⟨q.2.1, by omega⟩)]
  · rw [if_neg (fun q => h1 q.1), if_neg (fun q => h1 q.1), if_neg (fun q => h1 q.1)]
theorem cp13_n {σ : sT} {p o a : Nat} {n : Int} (h : a ≠ o) : cp13 σ p o n a = σ a := funext fun b => if_neg (fun q => h q.1)
theorem cp13_at {σ : sT} {p o : Nat} {n b : Int} (h0 : 0 ≤ b) (h1 : b < n) : cp13 σ p o n o b = σ p b := if_pos ⟨rfl, h0, h1⟩
theorem cpR_n {σ : sT} {f t a : Nat} {c : Int} (h : a ≠ t) : cpR σ f t c a = σ a := funext fun b => if_neg (fun q => h q.1)
theorem cpR_t {σ : sT} {f t : Nat} {c b : Int} : cpR σ f t c t b = if 0 ≤ b ∧ b < c then σ f b else σ t b := by
  unfold cpR
  by_cases h : 0 ≤ b ∧ b < c
  · rw [if_pos ⟨rfl, h⟩, if_pos h]
  · rw [if_neg (fun q => h q.2), if_neg h]
def sDis (p o : Nat) : Prop := p + 3 < o ∨ o + 3 < p
theorem cpSt_eq {σ : sT} {p o : Nat} {H N : Nat} (hd : sDis p o) (hH : σ p 8 = (H : Int)) (hN : σ p 9 = (N : Int)) : cpR (cpR (cpR (cp13 σ p o 13) (p + 1) (o + 1) H) (p + 2) (o + 2) H) (p + 3) (o + 3) N = cpSt σ p o := by
  unfold sDis at hd
  funext a b
  unfold cpSt
  rw [hH, hN]
  by_cases h0 : a = o
  · subst h0
    rw [cpR_n (by omega), cpR_n (by omega), cpR_n (by omega), if_pos rfl]
    unfold cp13
    by_cases hb : 0 ≤ b ∧ b < 13
    · rw [if_pos ⟨rfl, hb⟩, if_pos hb]
    · rw [if_neg (fun q => hb q.2), if_neg hb]
  · rw [if_neg h0]
    by_cases h1 : a = o + 1
    · subst h1
      rw [cpR_n (by omega), cpR_n (by omega), if_pos rfl, cpR_t, cp13_n (by omega), cp13_n (by omega)]
    · rw [if_neg h1]
      by_cases h2 : a = o + 2
      · subst h2
        rw [cpR_n (by omega), if_pos rfl, cpR_t, cpR_n (by omega), cpR_n (by omega), cp13_n (by omega), cp13_n (by omega)]
      · rw [if_neg h2]
        by_cases h3 : a = o + 3
        · subst h3
          rw [if_pos rfl, cpR_t, cpR_n (by omega), cpR_n (by omega), cpR_n (by omega), cpR_n (by omega), cp13_n (by omega), cp13_n (by omega)]
        · rw [if_neg h3, cpR_n h3, cpR_n h2, cpR_n h1, cp13_n h0]
theorem copyFrom_ok {o p H N : Nat} (hs : isSt o) (hp : isSt p) (hd : sDis p o) (hH : σ p 8 = (H : Int)) (hN : σ p 9 = (N : Int)) (hH7 : H ≤ 7) (hN40 : N ≤ 40) : FO g zX3_copyFrom [.ref o, .ref p] σ l (cpSt σ p o) := by
  have hd' := hd
  unfold sDis at hd'
  have hpo : p ≠ o := by omega
  have e1 := hs.2.2.2.2.2.1 l
  have e2 := hs.2.2.2.2.2.2.1 l
  have e3 := hs.2.2.2.2.2.2.2.1 l
  have f1 := hp.2.2.2.2.2.1 l
  have f2 := hp.2.2.2.2.2.2.1 l
  have f3 := hp.2.2.2.2.2.2.2.1 l
  refine Fn.of [some (.ref o), some (.ref p)] rfl (by decide) (Nat.le_of_ble_eq_true rfl) rfl ?_
  suffices h : FW g zX3_copyFrom 0 0 (fun q σ' l' => q = .inl none ∧ σ' = cpSt σ p o ∧ l' = l) 0 [some (.ref o), some (.ref p)] [] (cp13 σ p o 0) l by
    rw [cp13_0] at h
    exact h
  refine g_aload0 dX3_copyFrom_0 ?_
  refine g_aload1 dX3_copyFrom_1 ?_
  refine f_geti (J := 0) hp.1 hp.a rfl rfl fl_X3_9 dX3_copyFrom_2 ?_
  rw [cp13_n hpo]
  refine f_puti (J := 0) hs.1 hs.a rfl rfl fl_X3_9 rfl (fun _ _ _ h => by cases h; rfl) dX3_copyFrom_5 ?_
  rw [show up (cp13 σ p o 0) o 0 (σ p 0) = cp13 σ p o 1 from cp13_up (by decide)]
  refine g_aload0 dX3_copyFrom_8 ?_
  refine g_aload1 dX3_copyFrom_9 ?_
  refine f_geti (J := 1) hp.1 hp.a rfl rfl fl_X3_15 dX3_copyFrom_10 ?_
  rw [cp13_n hpo]
  refine f_puti (J := 1) hs.1 hs.a rfl rfl fl_X3_15 rfl (fun _ _ _ h => by cases h; rfl) dX3_copyFrom_13 ?_
  rw [show up (cp13 σ p o 1) o 1 (σ p 1) = cp13 σ p o 2 from cp13_up (by decide)]
  refine g_aload0 dX3_copyFrom_16 ?_
  refine g_aload1 dX3_copyFrom_17 ?_
  refine f_geti (J := 2) hp.1 hp.a rfl rfl fl_X3_18 dX3_copyFrom_18 ?_
  rw [cp13_n hpo]
  refine f_puti (J := 2) hs.1 hs.a rfl rfl fl_X3_18 rfl (fun _ _ _ h => by cases h; rfl) dX3_copyFrom_21 ?_
  rw [show up (cp13 σ p o 2) o 2 (σ p 2) = cp13 σ p o 3 from cp13_up (by decide)]
  refine g_aload0 dX3_copyFrom_24 ?_
  refine g_aload1 dX3_copyFrom_25 ?_
  refine f_geti (J := 3) hp.1 hp.a rfl rfl fl_X3_21 dX3_copyFrom_26 ?_
  rw [cp13_n hpo]
  refine f_puti (J := 3) hs.1 hs.a rfl rfl fl_X3_21 rfl (fun _ _ _ h => by cases h; rfl) dX3_copyFrom_29 ?_
  rw [show up (cp13 σ p o 3) o 3 (σ p 3) = cp13 σ p o 4 from cp13_up (by decide)]
  refine g_aload0 dX3_copyFrom_32 ?_
  refine g_aload1 dX3_copyFrom_33 ?_
  refine f_geti (J := 4) hp.1 hp.a rfl rfl fl_X3_24 dX3_copyFrom_34 ?_
  rw [cp13_n hpo]
  refine f_puti (J := 4) hs.1 hs.a rfl rfl fl_X3_24 rfl (fun _ _ _ h => by cases h; rfl) dX3_copyFrom_37 ?_
  rw [show up (cp13 σ p o 4) o 4 (σ p 4) = cp13 σ p o 5 from cp13_up (by decide)]
  refine g_aload0 dX3_copyFrom_40 ?_
  refine g_aload1 dX3_copyFrom_41 ?_
  refine f_geti (J := 5) hp.1 hp.a rfl rfl fl_X3_27 dX3_copyFrom_42 ?_
  rw [cp13_n hpo]
  refine f_puti (J := 5) hs.1 hs.a rfl rfl fl_X3_27 rfl (fun _ _ _ h => by cases h; rfl) dX3_copyFrom_45 ?_
  rw [show up (cp13 σ p o 5) o 5 (σ p 5) = cp13 σ p o 6 from cp13_up (by decide)]
  refine g_aload0 dX3_copyFrom_48 ?_
  refine g_aload1 dX3_copyFrom_49 ?_
  refine f_geti (J := 6) hp.1 hp.a rfl rfl fl_X3_30 dX3_copyFrom_50 ?_
  rw [cp13_n hpo]
  refine f_puti (J := 6) hs.1 hs.a rfl rfl fl_X3_30 rfl (fun _ _ _ h => by cases h; rfl) dX3_copyFrom_53 ?_
  rw [show up (cp13 σ p o 6) o 6 (σ p 6) = cp13 σ p o 7 from cp13_up (by decide)]
  refine g_aload0 dX3_copyFrom_56 ?_
  refine g_aload1 dX3_copyFrom_57 ?_
  refine f_geti (J := 7) hp.1 hp.a rfl rfl fl_X3_33 dX3_copyFrom_58 ?_
  rw [cp13_n hpo]
  refine f_puti (J := 7) hs.1 hs.a rfl rfl fl_X3_33 rfl (fun _ _ _ h => by cases h; rfl) dX3_copyFrom_61 ?_
  rw [show up (cp13 σ p o 7) o 7 (σ p 7) = cp13 σ p o 8 from cp13_up (by decide)]
  refine g_aload0 dX3_copyFrom_64 ?_
  refine g_aload1 dX3_copyFrom_65 ?_
  refine f_geti (J := 8) hp.1 hp.a rfl rfl fl_X3_36 dX3_copyFrom_66 ?_
  rw [cp13_n hpo]
  refine f_puti (J := 8) hs.1 hs.a rfl rfl fl_X3_36 rfl (fun _ _ _ h => by cases h; rfl) dX3_copyFrom_69 ?_
  rw [show up (cp13 σ p o 8) o 8 (σ p 8) = cp13 σ p o 9 from cp13_up (by decide)]
  refine g_aload0 dX3_copyFrom_72 ?_
  refine g_aload1 dX3_copyFrom_73 ?_
  refine f_geti (J := 9) hp.1 hp.a rfl rfl fl_X3_39 dX3_copyFrom_74 ?_
  rw [cp13_n hpo]
  refine f_puti (J := 9) hs.1 hs.a rfl rfl fl_X3_39 rfl (fun _ _ _ h => by cases h; rfl) dX3_copyFrom_77 ?_
  rw [show up (cp13 σ p o 9) o 9 (σ p 9) = cp13 σ p o 10 from cp13_up (by decide)]
  refine g_aload0 dX3_copyFrom_80 ?_
  refine g_aload1 dX3_copyFrom_81 ?_
  refine f_geti (J := 10) hp.1 hp.a rfl rfl fl_X3_42 dX3_copyFrom_82 ?_
  rw [cp13_n hpo]
  refine f_puti (J := 10) hs.1 hs.a rfl rfl fl_X3_42 rfl (fun _ _ _ h => by cases h; rfl) dX3_copyFrom_85 ?_
  rw [show up (cp13 σ p o 10) o 10 (σ p 10) = cp13 σ p o 11 from cp13_up (by decide)]
  refine g_aload0 dX3_copyFrom_88 ?_
  refine g_aload1 dX3_copyFrom_89 ?_
  refine f_geti (J := 11) hp.1 hp.a rfl rfl fl_X3_45 dX3_copyFrom_90 ?_
  rw [cp13_n hpo]
  refine f_puti (J := 11) hs.1 hs.a rfl rfl fl_X3_45 rfl (fun _ _ _ h => by cases h; rfl) dX3_copyFrom_93 ?_
  rw [show up (cp13 σ p o 11) o 11 (σ p 11) = cp13 σ p o 12 from cp13_up (by decide)]
  refine g_aload0 dX3_copyFrom_96 ?_
  refine g_aload1 dX3_copyFrom_97 ?_
  refine f_geti (J := 12) hp.1 hp.a rfl rfl fl_X3_48 dX3_copyFrom_98 ?_
  rw [cp13_n hpo]
  refine f_puti (J := 12) hs.1 hs.a rfl rfl fl_X3_48 rfl (fun _ _ _ h => by cases h; rfl) dX3_copyFrom_101 ?_
  rw [show up (cp13 σ p o 12) o 12 (σ p 12) = cp13 σ p o 13 from cp13_up (by decide)]
  refine g_aload1 dX3_copyFrom_104 ?_
  refine f_getr (r := p + 1) hp.1 hp.a rfl rfl fl_X3_51 dX3_copyFrom_105 ?_
  refine g_aload0 dX3_copyFrom_108 ?_
  refine f_getr (r := o + 1) hs.1 hs.a rfl rfl fl_X3_51 dX3_copyFrom_109 ?_
  refine g_aload0 dX3_copyFrom_112 ?_
  refine f_geti (J := 8) hs.1 hs.a rfl rfl fl_X3_36 dX3_copyFrom_113 ?_
  rw [cp13_at (by decide) (by decide), hH]
  refine f_cS3d (copyRow_ok hp.2.2.1 hp.b hs.2.2.1 hs.b (by omega) (by omega) (by omega)) oY_X3_copyRow oT_X3_copyRow lk_X3_61 rfl dX3_copyFrom_116 rfl (Or.inl rfl) ?_
  refine g_aload1 dX3_copyFrom_119 ?_
  refine f_getr (r := p + 2) hp.1 hp.a rfl rfl fl_X3_55 dX3_copyFrom_120 ?_
  refine g_aload0 dX3_copyFrom_123 ?_
  refine f_getr (r := o + 2) hs.1 hs.a rfl rfl fl_X3_55 dX3_copyFrom_124 ?_
  refine g_aload0 dX3_copyFrom_127 ?_
  refine f_geti (J := 8) hs.1 hs.a rfl rfl fl_X3_36 dX3_copyFrom_128 ?_
  rw [cpR_n (by omega), cp13_at (by decide) (by decide), hH]
  refine f_cS3d (copyRow_ok hp.2.2.2.1 hp.c hs.2.2.2.1 hs.c (by omega) (by omega) (by omega)) oY_X3_copyRow oT_X3_copyRow lk_X3_61 rfl dX3_copyFrom_131 rfl (Or.inl rfl) ?_
  refine g_aload1 dX3_copyFrom_134 ?_
  refine f_getr (r := p + 3) hp.1 hp.a rfl rfl fl_X3_58 dX3_copyFrom_135 ?_
  refine g_aload0 dX3_copyFrom_138 ?_
  refine f_getr (r := o + 3) hs.1 hs.a rfl rfl fl_X3_58 dX3_copyFrom_139 ?_
  refine g_aload0 dX3_copyFrom_142 ?_
  refine f_geti (J := 9) hs.1 hs.a rfl rfl fl_X3_39 dX3_copyFrom_143 ?_
  rw [cpR_n (by omega), cpR_n (by omega), cp13_at (by decide) (by decide), hN]
  refine f_cS3d (copyRow_ok hp.2.2.2.2.1 hp.d hs.2.2.2.2.1 hs.d (by omega) (by omega) (by omega)) oY_X3_copyRow oT_X3_copyRow lk_X3_61 rfl dX3_copyFrom_146 rfl (Or.inl rfl) ?_
  refine g_return rfl dX3_copyFrom_149 ?_
  exact FO.ret (cpSt_eq hd hH hN)
def bgSt (σ : sT) (o : Nat) : sT := up (up (up (up (up (up (up (up (up (up σ o 3 1) o 4 1) o 5 1) o 6 2) o 7 1) o 8 0) o 9 0) o 10 0) o 11 0) o 12 0
theorem beginAnew_ok {o : Nat} (hs : isSt o) : FO g zX3_beginAnew [.ref o] σ l (bgSt σ o) := by
  refine Fn.of [some (.ref o)] rfl (by decide) (Nat.le_of_ble_eq_true rfl) rfl ?_
  refine g_aload0 dX3_beginAnew_0 ?_
  refine g_iconst dX3_beginAnew_1 ?_
  refine f_puti (J := 3) hs.1 hs.a rfl rfl fl_X3_21 rfl (fun _ _ _ h => by cases h; rfl) dX3_beginAnew_2 ?_
  refine g_aload0 dX3_beginAnew_5 ?_
  refine g_iconst dX3_beginAnew_6 ?_
  refine f_puti (J := 4) hs.1 hs.a rfl rfl fl_X3_24 rfl (fun _ _ _ h => by cases h; rfl) dX3_beginAnew_7 ?_
  refine g_aload0 dX3_beginAnew_10 ?_
  refine g_iconst dX3_beginAnew_11 ?_
  refine f_puti (J := 5) hs.1 hs.a rfl rfl fl_X3_27 rfl (fun _ _ _ h => by cases h; rfl) dX3_beginAnew_12 ?_
  refine g_aload0 dX3_beginAnew_15 ?_
  refine g_iconst dX3_beginAnew_16 ?_
  refine f_puti (J := 6) hs.1 hs.a rfl rfl fl_X3_30 rfl (fun _ _ _ h => by cases h; rfl) dX3_beginAnew_17 ?_
  refine g_aload0 dX3_beginAnew_20 ?_
  refine g_iconst dX3_beginAnew_21 ?_
  refine f_puti (J := 7) hs.1 hs.a rfl rfl fl_X3_33 rfl (fun _ _ _ h => by cases h; rfl) dX3_beginAnew_22 ?_
  refine g_aload0 dX3_beginAnew_25 ?_
  refine g_iconst dX3_beginAnew_26 ?_
  refine f_puti (J := 8) hs.1 hs.a rfl rfl fl_X3_36 rfl (fun _ _ _ h => by cases h; rfl) dX3_beginAnew_27 ?_
  refine g_aload0 dX3_beginAnew_30 ?_
  refine g_iconst dX3_beginAnew_31 ?_
  refine f_puti (J := 9) hs.1 hs.a rfl rfl fl_X3_39 rfl (fun _ _ _ h => by cases h; rfl) dX3_beginAnew_32 ?_
  refine g_aload0 dX3_beginAnew_35 ?_
  refine g_iconst dX3_beginAnew_36 ?_
  refine f_puti (J := 10) hs.1 hs.a rfl rfl fl_X3_42 rfl (fun _ _ _ h => by cases h; rfl) dX3_beginAnew_37 ?_
  refine g_aload0 dX3_beginAnew_40 ?_
  refine g_iconst dX3_beginAnew_41 ?_
  refine f_puti (J := 11) hs.1 hs.a rfl rfl fl_X3_45 rfl (fun _ _ _ h => by cases h; rfl) dX3_beginAnew_42 ?_
  refine g_aload0 dX3_beginAnew_45 ?_
  refine g_iconst dX3_beginAnew_46 ?_
  refine f_puti (J := 12) hs.1 hs.a rfl rfl fl_X3_48 rfl (fun _ _ _ h => by cases h; rfl) dX3_beginAnew_47 ?_
  refine g_return rfl dX3_beginAnew_50 ?_
  exact FO.ret rfl

end C21
