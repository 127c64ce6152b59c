/-! append, load, what load said -/
section C65
variable {g : gT} {σ τ : sT} {l : Nat → Nat}
def rbU (v : Int64) (j : Nat) : Int64 := (v.toUInt64 >>> ((Int32.ofInt (56 - 8 * (j : Int))).toInt64.toUInt64 &&& Int64.toUInt64 63)).toInt64 &&& Int64.ofInt 255
def rbS (v : Int64) (j : Nat) : Int64 := (v >>> ((Int32.ofInt (56 - 8 * (j : Int))).toInt64 &&& 63)) &&& Int64.ofInt 255
theorem rbU_bv (v : Int64) {j : Nat} (hj : j < 8) : (rbU v j).toBitVec = (v.toBitVec >>> (56 - 8 * j)) &&& 255#64 := by
  have h : j = 0 ∨ j = 1 ∨ j = 2 ∨ j = 3 ∨ j = 4 ∨ j = 5 ∨ j = 6 ∨ j = 7 := by omega
  rcases h with rfl | rfl | rfl | rfl | rfl | rfl | rfl | rfl <;> rfl
theorem rbS_bv (v : Int64) {j : Nat} (hj : j < 8) : (rbS v j).toBitVec = (v.toBitVec.sshiftRight (56 - 8 * j)) &&& 255#64 := by
  have h : j = 0 ∨ j = 1 ∨ j = 2 ∨ j = 3 ∨ j = 4 ∨ j = 5 ∨ j = 6 ∨ j = 7 := by omega
  rcases h with rfl | rfl | rfl | rfl | rfl | rfl | rfl | rfl <;> rfl
theorem b255 {i : Nat} (h : 8 ≤ i) : (255#64).getLsbD i = false := by
  rw [BitVec.getLsbD_ofNat, Nat.testBit_lt_two_pow (Nat.lt_of_lt_of_le (by decide : 255 < 2 ^ 8) (Nat.pow_le_pow_right (by decide) h)), Bool.and_false]
theorem rb_bv (x : BitVec 64) {n : Nat} (hn : n ≤ 56) : (x >>> n) &&& 255#64 = (x.sshiftRight n) &&& 255#64 := by
  apply BitVec.eq_of_getLsbD_eq
  intro i hi
  rw [BitVec.getLsbD_and, BitVec.getLsbD_and, BitVec.getLsbD_ushiftRight, BitVec.getLsbD_sshiftRight]
  by_cases h : i < 8
  · rw [if_pos (by omega), decide_eq_false (by omega)]
    rfl
  · rw [b255 (by omega), Bool.and_false, Bool.and_false]
theorem rb_eq (v : Int64) {j : Nat} (hj : j < 8) : rbS v j = rbU v j := by
  apply Int64.toBitVec_inj.mp
  rw [rbU_bv v hj, rbS_bv v hj, rb_bv _ (by omega)]
/-- the j-th byte of a number, the highest first -/
def TB (v : Int64) (j : Nat) : Int := (rbU v j).toInt
theorem TB_of (v : Int64) (j : Nat) : rbU v j = Int64.ofInt (TB v j) := by unfold TB; rw [Int64.ofInt_toInt]
theorem TB_rng (v : Int64) {j : Nat} (hj : j < 8) : 0 ≤ TB v j ∧ TB v j ≤ 255 := by
  have h : (rbU v j).toBitVec.toNat ≤ 255 := by
    rw [rbU_bv v hj, BitVec.toNat_and]
    exact Nat.and_le_right
  have e : TB v j = ((rbU v j).toBitVec.toNat : Int) := BitVec.toInt_eq_toNat_of_lt (by omega)
  omega
/-- how many bytes of the first j aren't 0 -/
def nzB (v : Int64) : Nat → Nat
  | 0 => 0
  | j + 1 => nzB v j + (if TB v j = 0 then 0 else 1)
theorem nzB_le (v : Int64) (j : Nat) : nzB v j ≤ j := by
  induction j with
  | zero => exact Nat.le_refl _
  | succ j ih => unfold nzB; split <;> omega
theorem nzB_mono (v : Int64) {i j : Nat} (h : i ≤ j) : nzB v i ≤ nzB v j := by
  induction j with
  | zero => rw [show i = 0 from by omega]; exact Nat.le_refl _
  | succ j ih =>
    by_cases e : i = j + 1
    · rw [e]; exact Nat.le_refl _
    · have h2 := ih (by omega)
      have h3 : nzB v (j + 1) = nzB v j + (if TB v j = 0 then 0 else 1) := rfl
      omega
/-- the text with them put behind -/
def apT (T : Int → Int) (N : Nat) (v : Int64) : Nat → Int → Int
  | 0 => T
  | j + 1 => if TB v j = 0 then apT T N v j else su (apT T N v j) ((N + nzB v j : Nat) : Int) (TB v j)
theorem apT_ok {T : Int → Int} {N : Nat} {v : Int64} (h : TX T N) : ∀ j : Nat, j ≤ 8 → N + nzB v j ≤ 400 → TX (apT T N v j) (N + nzB v j) := by
  intro j
  induction j with
  | zero => intro _ _; exact h
  | succ j ih =>
    intro hj hN
    have hb := TB_rng v (j := j) (by omega)
    have hm := nzB_mono v (show j ≤ j + 1 by omega)
    have h1 := ih (by omega) (by omega)
    refine ⟨hN, fun i hi => ?_⟩
    unfold apT
    by_cases c : TB v j = 0
    · rw [if_pos c]
      unfold nzB at hi
      rw [if_pos c] at hi
      exact h1.2 i (by omega)
    · rw [if_neg c]
      unfold su
      by_cases e : (i : Int) = ((N + nzB v j : Nat) : Int)
      · rw [if_pos e]; omega
      · rw [if_neg e]
        unfold nzB at hi
        rw [if_neg c] at hi
        exact h1.2 i (by omega)
/-- the memory with a text of N bytes -/
def txS (σ : sT) (T : Int → Int) (N : Int) : sT := fun a j => if a = 10 then T j else if a = 9 ∧ j = 1 then N else σ a j
theorem txS_n {a : Nat} {T : Int → Int} {N : Int} (h : a ≠ 10) (h9 : a ≠ 9) : txS σ T N a = σ a := by funext j; unfold txS; rw [if_neg h, if_neg (fun z => h9 z.1)]
theorem txS_10 {T : Int → Int} {N : Int} : txS σ T N 10 = T := by funext j; unfold txS; rw [if_pos rfl]
theorem txS_1 {T : Int → Int} {N : Int} : txS σ T N 9 1 = N := by unfold txS; rw [if_neg (by decide), if_pos ⟨rfl, rfl⟩]
theorem txS_9 {T : Int → Int} {N j : Int} (h : j ≠ 1) : txS σ T N 9 j = σ 9 j := by unfold txS; rw [if_neg (by decide), if_neg (fun z => h z.2)]
theorem txS_id {T : Int → Int} {N : Int} (h10 : σ 10 = T) (h1 : σ 9 1 = N) : txS σ T N = σ := by
  funext a j
  unfold txS
  by_cases c : a = 10
  · rw [if_pos c, c, h10]
  · rw [if_neg c]
    by_cases c9 : a = 9 ∧ j = 1
    · rw [if_pos c9, c9.1, c9.2, h1]
    · rw [if_neg c9]
theorem txS_s {T : Int → Int} {N x : Int} : up (up (txS σ T N) 10 N x) 9 1 (N + 1) = txS σ (su T N x) (N + 1) := by
  funext a j
  unfold up txS su
  by_cases c9 : a = 9 ∧ j = 1
  · rw [if_pos c9, if_neg (by omega), if_pos c9]
  · rw [if_neg c9]
    by_cases c : a = 10
    · subst c
      by_cases e : j = N
      · rw [if_pos ⟨rfl, e⟩, if_pos rfl, if_pos e]
      · rw [if_neg (fun z => e z.2), if_pos rfl, if_pos rfl, if_neg e]
    · rw [if_neg (fun z => c z.1), if_neg c, if_neg c9, if_neg c, if_neg c9]
theorem take_ok {T : Int → Int} {N : Nat} {v : Int64} (hT : TX T N) (h1 : σ 9 1 = (N : Int)) (h10 : σ 10 = T) : Fn g zX2_take 0 0 [.ref 9, .long v] σ l (fun o τ l' => l' = l ∧ if N + nzB v 8 ≤ 400 then o = .inl (some (iv 1)) ∧ τ = txS σ (apT T N v 8) ((N + nzB v 8 : Nat) : Int) else o = .inl (some (iv 0)) ∧ τ = σ) := by
  have hN := hT.1
  have hz8 := nzB_le v 8
  refine Fn.of [some (.ref 9), some (.long v), none, none, none, none] rfl (by decide) (Nat.le_of_ble_eq_true rfl) rfl ?_
  have after : ∀ x : Int, x = (nzB v 8 : Int) → FW g zX2_take 0 0 (fun o τ l' => l' = l ∧ if N + nzB v 8 ≤ 400 then o = .inl (some (iv 1)) ∧ τ = txS σ (apT T N v 8) ((N + nzB v 8 : Nat) : Int) else o = .inl (some (iv 0)) ∧ τ = σ) 38 [some (.ref 9), some (.long v), none, some (iv x), some (iv (-8)), none] [] σ l := by
    intro x hx
    refine g_aload0 dX2_take_38 ?_
    refine f_geti (J := 1) rfl (by decide) rfl rfl fl_X2_15 dX2_take_39 ?_
    rw [h1]
    refine g_iload3 dX2_take_42 ?_
    refine g_iadd dX2_take_43 ?_
    refine g_sipush dX2_take_44 (by decide) ?_
    refine g_icmp_le ⟨by omega, by omega⟩ ⟨by decide, by decide⟩ (tgt := 52) dX2_take_47 rfl (fun h47 => ?_) (fun h47 => ?_)
    · have hfit : N + nzB v 8 ≤ 400 := by omega
      have fin : ∀ (sh : Int) (u5 : Option Value) {q : Nat}, q = 8 → FW g zX2_take 0 0 (fun o τ l' => l' = l ∧ if N + nzB v 8 ≤ 400 then o = .inl (some (iv 1)) ∧ τ = txS σ (apT T N v 8) ((N + nzB v 8 : Nat) : Int) else o = .inl (some (iv 0)) ∧ τ = σ) 106 [some (.ref 9), some (.long v), none, some (iv x), some (iv sh), u5] [] (txS σ (apT T N v q) ((N + nzB v q : Nat) : Int)) l := by
        intro sh u5 q hq
        subst hq
        refine g_iconst dX2_take_106 ?_
        refine g_iretB (Or.inr rfl) rfl dX2_take_107 ?_
        exact fn_ret ⟨rfl, by rw [if_pos hfit]; exact ⟨rfl, rfl⟩⟩
      have loop2 : ∀ q : Nat, q ≤ 8 → ∀ (sh : Int) (u5 : Option Value), sh = 56 - 8 * (q : Int) → FW g zX2_take 0 0 (fun o τ l' => l' = l ∧ if N + nzB v 8 ≤ 400 then o = .inl (some (iv 1)) ∧ τ = txS σ (apT T N v 8) ((N + nzB v 8 : Nat) : Int) else o = .inl (some (iv 0)) ∧ τ = σ) 56 [some (.ref 9), some (.long v), none, some (iv x), some (iv sh), u5] [] (txS σ (apT T N v q) ((N + nzB v q : Nat) : Int)) l := by
        refine loopUp _ (fun q hq2 ih sh u5 hsh => ?_)
        subst hsh
        refine g_iload4 dX2_take_56 ?_
        refine g_if_lt ⟨by omega, by omega⟩ (tgt := 106) dX2_take_58 rfl (fun h58 => ?_) (fun h58 => ?_)
        · exact fin _ _ (by omega)
        · have hb := TB_rng v (j := q) (by omega)
          have hm := nzB_mono v (show q + 1 ≤ 8 by omega)
          have hm0 := nzB_mono v (show q ≤ q + 1 by omega)
          refine g_lload1 dX2_take_61 ?_
          refine g_iload4 dX2_take_62 ?_
          refine g_lushrR dX2_take_64 ?_
          refine g_ldc2 (v := Int64.ofInt (255)) kl_X2_54 dX2_take_65 ?_
          refine g_landR dX2_take_68 ?_
          rw [show (v.toUInt64 >>> ((Int32.ofInt (56 - 8 * (q : Int))).toInt64.toUInt64 &&& Int64.toUInt64 63)).toInt64 &&& Int64.ofInt 255 = Int64.ofInt (TB v q) from TB_of v q]
          refine g_l2i dX2_take_69 ?_
          refine g_istore5 dX2_take_70 rfl (by decide) ?_
          refine g_iload5 dX2_take_72 ?_
          refine g_if_eq ⟨by omega, by omega⟩ (tgt := 100) dX2_take_74 rfl (fun h74 => ?_) (fun h74 => ?_)
          · refine g_iinc4 dX2_take_100 rfl (by decide) ?_
            refine g_goto (tgt := 56) dX2_take_103 rfl ?_
            first
              | (rw [txS_s, ← hq2, show ((N + nzB v q : Nat) : Int) + 1 = ((N + nzB v (q + 1) : Nat) : Int) from by omega]
                 exact ih (by omega) _ _ (by push_cast; omega))
              | (have hq1 : nzB v (q + 1) = nzB v q := by rw [nzB, if_pos h74]; omega
                 have hq2 : apT T N v (q + 1) = apT T N v q := by rw [apT, if_pos h74]
                 rw [← hq1, ← hq2]
                 exact ih (by omega) _ _ (by push_cast; omega))
          · have hq1 : nzB v (q + 1) = nzB v q + 1 := by rw [nzB, if_neg h74]
            have hq2 : apT T N v (q + 1) = su (apT T N v q) ((N + nzB v q : Nat) : Int) (TB v q) := by rw [apT, if_neg h74]
            refine g_aload0 dX2_take_77 ?_
            refine f_getr (r := 10) rfl (by decide) rfl rfl fl_X2_9 dX2_take_78 ?_
            refine g_aload0 dX2_take_81 ?_
            refine f_geti (J := 1) rfl (by decide) rfl rfl fl_X2_15 dX2_take_82 ?_
            rw [txS_1]
            refine g_iload5 dX2_take_85 ?_
            refine f_cS3d (putI rfl (by decide) (by omega) (by show ((N + nzB v q : Nat) : Int) < ((400 : Nat) : Int); omega)) oY_X5_put oT_X5_put lk_X2_56 rfl dX2_take_87 rfl (Or.inl rfl) ?_
            refine g_aload0 dX2_take_90 ?_
            refine g_dup rfl dX2_take_91 ?_
            refine f_geti (J := 1) rfl (by decide) rfl rfl fl_X2_15 dX2_take_92 ?_
            rw [up_n (by decide), txS_1]
            refine g_iconst dX2_take_95 ?_
            refine g_iadd dX2_take_96 ?_
            refine f_puti (J := 1) rfl (by decide) rfl rfl fl_X2_15 rfl (fun _ _ _ h => by cases h; rfl) dX2_take_97 ?_
            refine g_iinc4 dX2_take_100 rfl (by decide) ?_
            refine g_goto (tgt := 56) dX2_take_103 rfl ?_
            first
              | (rw [txS_s, ← hq2, show ((N + nzB v q : Nat) : Int) + 1 = ((N + nzB v (q + 1) : Nat) : Int) from by omega]
                 exact ih (by omega) _ _ (by push_cast; omega))
              | (have hq1 : nzB v (q + 1) = nzB v q := by rw [nzB, if_pos h74]; omega
                 have hq2 : apT T N v (q + 1) = apT T N v q := by rw [apT, if_pos h74]
                 rw [← hq1, ← hq2]
                 exact ih (by omega) _ _ (by push_cast; omega))
      refine g_bipush dX2_take_52 (by decide) ?_
      refine g_istore4 dX2_take_54 rfl (by decide) ?_
      have h0 := loop2 0 (Nat.zero_le _) 56 none rfl
      rw [show txS σ (apT T N v 0) ((N + nzB v 0 : Nat) : Int) = σ from txS_id h10 h1] at h0
      exact h0
    · refine g_iconst dX2_take_50 ?_
      refine g_iretB (Or.inl rfl) rfl dX2_take_51 ?_
      exact fn_ret ⟨rfl, by rw [if_neg (by omega)]; exact ⟨rfl, rfl⟩⟩
  have loop : ∀ q : Nat, q ≤ 8 → ∀ (sh x : Int), sh = 56 - 8 * (q : Int) → x = (nzB v q : Int) → FW g zX2_take 0 0 (fun o τ l' => l' = l ∧ if N + nzB v 8 ≤ 400 then o = .inl (some (iv 1)) ∧ τ = txS σ (apT T N v 8) ((N + nzB v 8 : Nat) : Int) else o = .inl (some (iv 0)) ∧ τ = σ) 6 [some (.ref 9), some (.long v), none, some (iv x), some (iv sh), none] [] σ l := by
    refine loopUp _ (fun q hq2 ih sh x hsh hx => ?_)
    subst hsh
    refine g_iload4 dX2_take_6 ?_
    refine g_if_lt ⟨by omega, by omega⟩ (tgt := 38) dX2_take_8 rfl (fun h8 => ?_) (fun h8 => ?_)
    · have e9 : q = 8 := by omega
      subst e9
      exact after x hx
    · have hb := TB_rng v (j := q) (by omega)
      refine g_iload3 dX2_take_11 ?_
      refine g_lload1 dX2_take_12 ?_
      refine g_iload4 dX2_take_13 ?_
      refine g_lushrR dX2_take_15 ?_
      refine g_ldc2 (v := Int64.ofInt (255)) kl_X2_54 dX2_take_16 ?_
      refine g_landR dX2_take_19 ?_
      rw [show (v.toUInt64 >>> ((Int32.ofInt (56 - 8 * (q : Int))).toInt64.toUInt64 &&& Int64.toUInt64 63)).toInt64 &&& Int64.ofInt 255 = Int64.ofInt (TB v q) from TB_of v q]
      refine g_lconst0 dX2_take_20 ?_
      refine g_lcmp ⟨by omega, by omega⟩ ⟨by decide, by decide⟩ dX2_take_21 ?_
      refine g_if_ne_sg (tgt := 29) dX2_take_22 rfl (fun h22 => ?_) (fun h22 => ?_)
      · refine g_iconst dX2_take_29 ?_
        refine g_iadd dX2_take_30 ?_
        refine g_istore3 dX2_take_31 rfl (by decide) ?_
        refine g_iinc4 dX2_take_32 rfl (by decide) ?_
        refine g_goto (tgt := 6) dX2_take_35 rfl ?_
        first
          | exact ih (by omega) _ _ (by push_cast; omega) (by rw [hx, nzB, if_neg h22]; push_cast; rfl)
          | exact ih (by omega) _ _ (by push_cast; omega) (by rw [hx, nzB, if_pos h22]; push_cast; rfl)
      · refine g_iconst dX2_take_25 ?_
        refine g_goto (tgt := 30) dX2_take_26 rfl ?_
        refine g_iadd dX2_take_30 ?_
        refine g_istore3 dX2_take_31 rfl (by decide) ?_
        refine g_iinc4 dX2_take_32 rfl (by decide) ?_
        refine g_goto (tgt := 6) dX2_take_35 rfl ?_
        first
          | exact ih (by omega) _ _ (by push_cast; omega) (by rw [hx, nzB, if_neg h22]; push_cast; rfl)
          | exact ih (by omega) _ _ (by push_cast; omega) (by rw [hx, nzB, if_pos h22]; push_cast; rfl)
  refine g_iconst dX2_take_0 ?_
  refine g_istore3 dX2_take_1 rfl (by decide) ?_
  refine g_bipush dX2_take_2 (by decide) ?_
  refine g_istore4 dX2_take_4 rfl (by decide) ?_
  exact loop 0 (Nat.zero_le _) _ _ rfl rfl
theorem append_ok {T : Int → Int} {N : Nat} {v : Int64} (hT : TX T N) (h1 : σ 9 1 = (N : Int)) (h10 : σ 10 = T) : Fn g zX5_append 0 0 [.ref 0, .long v] σ l (fun o τ l' => l' = l ∧ if N + nzB v 8 ≤ 400 then o = .inl (some (iv ((N + nzB v 8 : Nat) : Int))) ∧ τ = txS σ (apT T N v 8) ((N + nzB v 8 : Nat) : Int) else o = .inl (some (iv (-2))) ∧ τ = σ) := by
  refine Fn.of [some (.ref 0), some (.long v), none] rfl (by decide) (Nat.le_of_ble_eq_true rfl) rfl ?_
  have hk := take_ok (g := g) (l := l) (v := v) hT h1 h10
  by_cases c : N + nzB v 8 ≤ 400
  · have hq : FX g zX2_take [.ref 9, .long v] σ l (iv 1) (txS σ (apT T N v 8) ((N + nzB v 8 : Nat) : Int)) := Fn.mono hk (fun o τ l' ⟨a, b⟩ => by rw [if_pos c] at b; exact ⟨b.1, b.2, a⟩)
    refine g_aload0 dX5_append_0 ?_
    refine f_getr (r := 9) rfl (by decide) rfl rfl fl_X5_40 dX5_append_1 ?_
    refine g_lload1 dX5_append_4 ?_
    refine f_cV1x (hq) rfl (by decide) rfl oY_X2_take oI_X2_take lk_X5_80 rfl dX5_append_5 rfl (Or.inl rfl) ?_
    refine g_if_eq ⟨by decide, by decide⟩ (tgt := 21) dX5_append_8 rfl (fun h8 => absurd h8 (by decide)) (fun h8 => ?_)
    refine g_aload0 dX5_append_11 ?_
    refine f_getr (r := 9) rfl (by decide) rfl rfl fl_X5_40 dX5_append_12 ?_
    refine f_geti (J := 1) rfl (by decide) rfl rfl fl_X5_84 dX5_append_15 ?_
    rw [txS_1]
    refine g_goto (tgt := 23) dX5_append_18 rfl ?_
    refine g_iretI rfl dX5_append_23 ?_
    exact fn_ret ⟨rfl, by rw [if_pos c]; exact ⟨rfl, rfl⟩⟩
  · have hq : FX g zX2_take [.ref 9, .long v] σ l (iv 0) (σ) := Fn.mono hk (fun o τ l' ⟨a, b⟩ => by rw [if_neg c] at b; exact ⟨b.1, b.2, a⟩)
    refine g_aload0 dX5_append_0 ?_
    refine f_getr (r := 9) rfl (by decide) rfl rfl fl_X5_40 dX5_append_1 ?_
    refine g_lload1 dX5_append_4 ?_
    refine f_cV1x (hq) rfl (by decide) rfl oY_X2_take oI_X2_take lk_X5_80 rfl dX5_append_5 rfl (Or.inl rfl) ?_
    refine g_if_eq ⟨by decide, by decide⟩ (tgt := 21) dX5_append_8 rfl (fun h8 => ?_) (fun h8 => absurd h8 (by decide))
    refine g_bipush dX5_append_21 (by decide) ?_
    refine g_iretI rfl dX5_append_23 ?_
    exact fn_ret ⟨rfl, by rw [if_neg c]; exact ⟨rfl, rfl⟩⟩
def LdF (σ : sT) (e : Int × Nat × Int) (τ : sT) : Prop := (∀ a, a ≠ 9 → a < 11 ∨ 15 < a → τ a = σ a) ∧ τ 9 1 = 0 ∧ τ 9 2 = e.1 ∧ τ 9 4 = e.2.2
def LdS (σ : sT) (d : Int → Int) (τ : sT) : Prop := (∀ a, a ≠ 0 → a ≠ 9 → a < 1 ∨ 4 < a → a < 11 ∨ 15 < a → τ a = σ a) ∧ (∀ j, j ≠ 4 → j ≠ 15 → τ 0 j = σ 0 j) ∧ τ 9 1 = 0 ∧ τ 9 2 = 0
theorem load_no {N : Nat} {e : Int × Nat × Int} (hT : TX (σ 10) N) (h1 : σ 9 1 = (N : Int)) (hr : rAll (σ 10) N = .inl e) : Fn g zX5_load 0 0 [.ref 0] σ l (fun o τ l' => l' = l ∧ o = .inl (some (iv (-100 - (e.2.1 : Int)))) ∧ LdF σ e τ) := by
  have hk := read_ok (g := g) (l := l) hT h1
  rw [hr] at hk
  refine Fn.of [some (.ref 0), none] rfl (by decide) (Nat.le_of_ble_eq_true rfl) rfl ?_
  refine g_aload0 dX5_load_0 ?_
  refine f_getr (r := 9) rfl (by decide) rfl rfl fl_X5_40 dX5_load_1 ?_
  refine f_cV0n (hk) rfl (by decide) rfl oY_X2_read oI_X2_read lk_X5_87 rfl dX5_load_4 (Nat.zero_le _) (Nat.zero_le _) rfl (Or.inl rfl) (fun v4 σ4 l4 h4 => ?_) (fun e4 σ4 l4 h4 => ?_)
  · obtain ⟨e4, y4⟩ := Ry.split h4
    subst e4
    rcases y4 with ⟨k4, r4, rfl, A4⟩ | ⟨q4, r4, rfl, B4⟩
    · show GW g _ _ _ _ _ _ (iv 0 :: _) _
      refine g_istore1 dX5_load_7 rfl (by decide) ?_
      refine g_aload0 dX5_load_8 ?_
      refine f_getr (r := 9) rfl (by decide) rfl rfl fl_X5_40 dX5_load_9 ?_
      refine g_iconst dX5_load_12 ?_
      refine f_puti (J := 1) rfl (by decide) rfl rfl fl_X5_84 rfl (fun _ _ _ h => by cases h; rfl) dX5_load_13 ?_
      refine g_iload1 dX5_load_16 ?_
      refine g_if_ne ⟨by decide, by decide⟩ (tgt := 31) dX5_load_17 rfl (fun h17 => absurd h17 (by decide)) (fun h17 => ?_)
      refine g_bipush dX5_load_20 (by decide) ?_
      refine g_aload0 dX5_load_22 ?_
      refine f_getr (r := 9) rfl (by decide) rfl rfl fl_X5_40 dX5_load_23 ?_
      refine f_geti (J := 3) rfl (by decide) rfl rfl fl_X5_91 dX5_load_26 ?_
      rw [up_ne (by decide), show σ4 9 3 = (k4.2.1 : Int) from A4.pl]
      refine g_isub dX5_load_29 ?_
      refine g_iretI rfl dX5_load_30 ?_
      cases r4
      exact fn_ret ⟨rfl, rfl, fun a a0 a1 => by rw [up_n a0]; exact A4.fr a a0 a1, up_eq, by rw [up_ne (by decide)]; exact A4.err, by rw [up_ne (by decide)]; exact A4.stm⟩
    · show GW g _ _ _ _ _ _ (iv 1 :: _) _
      refine g_istore1 dX5_load_7 rfl (by decide) ?_
      refine g_aload0 dX5_load_8 ?_
      refine f_getr (r := 9) rfl (by decide) rfl rfl fl_X5_40 dX5_load_9 ?_
      refine g_iconst dX5_load_12 ?_
      refine f_puti (J := 1) rfl (by decide) rfl rfl fl_X5_84 rfl (fun _ _ _ h => by cases h; rfl) dX5_load_13 ?_
      refine g_iload1 dX5_load_16 ?_
      refine g_if_ne ⟨by decide, by decide⟩ (tgt := 31) dX5_load_17 rfl (fun h17 => ?_) (fun h17 => absurd h17 (by decide))
      cases r4
  · exact (Ry.nx h4).elim
theorem Kc.frame2 {ρ : sT} {B : Int} {s : Int → Int} (h : Kc σ l B s) (hf : ∀ a, (1 ≤ a ∧ a ≤ 4) ∨ 17 ≤ a → a ≠ 9 → ρ a = σ a) (h0 : ρ 0 = σ 0) : Kc ρ l B s :=
  ⟨h.ok, h.st.frame (hf 1 (by decide) (by decide)) (hf 2 (by decide) (by decide)) (hf 3 (by decide) (by decide)) (hf 4 (by decide) (by decide)), by rw [h0]; exact h.ca.frame (fun a a0 a1 => hf a (by omega) (by omega)) (LE2.refl l)⟩
theorem Ic.fr9 {ρ : sT} {B : Int} {s : Int → Int} {n : Nat} {P : Nat → Int → Int} (h : Ic σ l B s n P) (hf : ∀ a, a ≠ 9 → a < 11 ∨ 15 < a → ρ a = σ a) : Ic ρ l B s n P := by
  obtain ⟨hK, ⟨i, hi, h3, hp⟩, h4, h8⟩ := h
  have e0 : ρ 0 = σ 0 := hf 0 (by decide) (by decide)
  refine ⟨hK.frame2 (fun a a0 a1 => hf a a1 (by omega)) e0, ⟨i, hi, by rw [e0]; exact h3, fun j hj => ?_⟩, by rw [e0]; exact h4, h8⟩
  obtain ⟨p1, p2, p3, p4⟩ := hp j hj
  rw [hf 6 (by decide) (by decide)]
  exact ⟨p1, p2.frame (hf _ (by omega) (by omega)) (hf _ (by omega) (by omega)) (hf _ (by omega) (by omega)) (hf _ (by omega) (by omega)), p3, p4⟩
theorem load_yes {N : Nat} {d : Int → Int} {B : Int} {s : Int → Int} {n : Nat} {P Q : Nat → Int → Int} (hI : Ic σ l B s n P) (hB : 0 ≤ B) (hT : TX (σ 10) N) (h1 : σ 9 1 = (N : Int)) (hr : rAll (σ 10) N = .inr d) : Fn g zX5_load 0 0 [.ref 0] σ l (fun o τ l' => l' = l ∧ o = .inl (some (iv (d 9))) ∧ LdS σ d τ ∧ Ic τ l' B d 0 Q) := by
  have hk := read_ok (g := g) (l := l) hT h1
  rw [hr] at hk
  refine Fn.of [some (.ref 0), none] rfl (by decide) (Nat.le_of_ble_eq_true rfl) rfl ?_
  refine g_aload0 dX5_load_0 ?_
  refine f_getr (r := 9) rfl (by decide) rfl rfl fl_X5_40 dX5_load_1 ?_
  refine f_cV0n (hk) rfl (by decide) rfl oY_X2_read oI_X2_read lk_X5_87 rfl dX5_load_4 (Nat.zero_le _) (Nat.zero_le _) rfl (Or.inl rfl) (fun v4 σ4 l4 h4 => ?_) (fun e4 σ4 l4 h4 => ?_)
  · obtain ⟨e4, y4⟩ := Ry.split h4
    subst e4
    rcases y4 with ⟨k4, r4, rfl, A4⟩ | ⟨q4, r4, rfl, B4⟩
    · show GW g _ _ _ _ _ _ (iv 0 :: _) _
      refine g_istore1 dX5_load_7 rfl (by decide) ?_
      refine g_aload0 dX5_load_8 ?_
      refine f_getr (r := 9) rfl (by decide) rfl rfl fl_X5_40 dX5_load_9 ?_
      refine g_iconst dX5_load_12 ?_
      refine f_puti (J := 1) rfl (by decide) rfl rfl fl_X5_84 rfl (fun _ _ _ h => by cases h; rfl) dX5_load_13 ?_
      refine g_iload1 dX5_load_16 ?_
      refine g_if_ne ⟨by decide, by decide⟩ (tgt := 31) dX5_load_17 rfl (fun h17 => absurd h17 (by decide)) (fun h17 => ?_)
      cases r4
    · show GW g _ _ _ _ _ _ (iv 1 :: _) _
      refine g_istore1 dX5_load_7 rfl (by decide) ?_
      refine g_aload0 dX5_load_8 ?_
      refine f_getr (r := 9) rfl (by decide) rfl rfl fl_X5_40 dX5_load_9 ?_
      refine g_iconst dX5_load_12 ?_
      refine f_puti (J := 1) rfl (by decide) rfl rfl fl_X5_84 rfl (fun _ _ _ h => by cases h; rfl) dX5_load_13 ?_
      refine g_iload1 dX5_load_16 ?_
      refine g_if_ne ⟨by decide, by decide⟩ (tgt := 31) dX5_load_17 rfl (fun h17 => ?_) (fun h17 => absurd h17 (by decide))
      cases r4
      obtain ⟨st, ht, p, hP⟩ := B4
      have hd : SOK 0 d := hP.s
      have c11 : CSt (up σ4 9 1 0) 11 d := hP.c.frame (up_n (by decide)) (up_n (by decide)) (up_n (by decide)) (up_n (by decide))
      have h9 : rplS (up σ4 9 1 0) 11 1 9 = d 9 := by
        unfold rplS
        rw [up_n (by decide), up_n (by decide)]
        exact (CSt.cp c11).f9
      have hI2 : Ic (up σ4 9 1 0) l4 B s n P := hI.fr9 (fun a a0 a1 => by rw [up_n a0]; exact hP.fr a a0 a1)
      refine g_aload0 dX5_load_31 ?_
      refine g_aload0 dX5_load_32 ?_
      refine f_getr (r := 9) rfl (by decide) rfl rfl fl_X5_40 dX5_load_33 ?_
      refine f_getr (r := 11) rfl (by decide) rfl rfl fl_X5_94 dX5_load_36 ?_
      refine f_cV1d (replaceAll_ok isSt11 (by unfold sDis; omega) (by rw [c11.f8, hd.hI]) (by rw [c11.f9, hd.nI]) hd.h7 hd.n40) rfl (by decide) rfl oY_X5_replaceAll oI_X5_replaceAll lk_X5_97 rfl dX5_load_39 rfl (Or.inl rfl) ?_
      refine g_aload0 dX5_load_42 ?_
      refine f_getr (r := 1) rfl (by decide) rfl rfl fl_X5_10 dX5_load_43 ?_
      refine f_geti (J := 9) rfl (by decide) rfl rfl fl_X5_101 dX5_load_46 ?_
      rw [h9]
      refine g_iretI rfl dX5_load_49 ?_
      refine fn_ret ⟨rfl, rfl, ⟨fun a a0 a9 a1 a2 => ?_, fun j j4 j15 => ?_, ?_, ?_⟩, rplS_ic hI2 c11 (hd.more hB) (by decide)⟩
      · unfold rplS; rw [up_n a0, up_n a0, cpSt_n (by omega), up_n a9]; exact hP.fr a a9 a2
      · unfold rplS; rw [up_ne (fun z => j15 z.2), up_ne (fun z => j4 z.2), cpSt_n (by decide), up_n (by decide)]; exact congrFun (hP.fr 0 (by decide) (by decide)) j
      · unfold rplS; rw [up_n (by decide), up_n (by decide), cpSt_n (by decide), up_eq]
      · unfold rplS; rw [up_n (by decide), up_n (by decide), cpSt_n (by decide), up_ne (by decide)]; exact hP.err
  · exact (Ry.nx h4).elim
theorem loadError_ok {k : Int} (h : σ 9 2 = k) : Fw g zX5_loadError [.ref 0] σ l (iv k) := by
  refine Fn.of [some (.ref 0)] rfl (by decide) (Nat.le_of_ble_eq_true rfl) rfl ?_
  refine g_aload0 dX5_loadError_0 ?_
  refine f_getr (r := 9) rfl (by decide) rfl rfl fl_X5_40 dX5_loadError_1 ?_
  refine f_geti (J := 2) rfl (by decide) rfl rfl fl_X5_104 dX5_loadError_4 ?_
  rw [h]
  refine g_iretI rfl dX5_loadError_7 ?_
  exact Fw.ret rfl
theorem loadStatement_ok {k st : Int} (h : σ 9 2 = k) (hk : R32 k) (h4 : σ 9 4 = st) : Fw g zX5_loadStatement [.ref 0] σ l (iv (if k = 0 then -1 else st)) := by
  refine Fn.of [some (.ref 0)] rfl (by decide) (Nat.le_of_ble_eq_true rfl) rfl ?_
  refine g_aload0 dX5_loadStatement_0 ?_
  refine f_getr (r := 9) rfl (by decide) rfl rfl fl_X5_40 dX5_loadStatement_1 ?_
  refine f_geti (J := 2) rfl (by decide) rfl rfl fl_X5_104 dX5_loadStatement_4 ?_
  rw [h]
  refine g_if_ne hk (tgt := 14) dX5_loadStatement_7 rfl (fun h7 => ?_) (fun h7 => ?_)
  · refine g_aload0 dX5_loadStatement_14 ?_
    refine f_getr (r := 9) rfl (by decide) rfl rfl fl_X5_40 dX5_loadStatement_15 ?_
    refine f_geti (J := 4) rfl (by decide) rfl rfl fl_X5_107 dX5_loadStatement_18 ?_
    rw [h4]
    refine g_iretI rfl dX5_loadStatement_21 ?_
    first
      | exact Fw.ret (by rw [if_pos h7])
      | exact Fw.ret (by rw [if_neg h7])
  · refine g_iconst dX5_loadStatement_10 ?_
    refine g_goto (tgt := 21) dX5_loadStatement_11 rfl ?_
    refine g_iretI rfl dX5_loadStatement_21 ?_
    first
      | exact Fw.ret (by rw [if_pos h7])
      | exact Fw.ret (by rw [if_neg h7])
end C65
