/-! Fingerings: the class's rows of all fingerings. -/
section C22
variable {g : gT} {σ : sT} {l : Nat → Nat}
def lenBy (b pl st len : Int) : Int := if 10 * pl + quoF (5 * b * b) st < len then 10 * pl + quoF (5 * b * b) st + quoF (len - (10 * pl + quoF (5 * b * b) st)) (1 + st) else len
theorem lengthBy_ok {b pl st len : Int} (hb : 5 ≤ b ∧ b ≤ 20) (hp : 0 ≤ pl ∧ pl ≤ 1000) (hs : 0 ≤ st ∧ st ≤ 100) (hl : 0 ≤ len ∧ len ≤ 1000000) : Fw g zX1_lengthBy [iv b, iv pl, iv st, iv len] σ l (iv (lenBy b pl st len)) := by
  refine Fn.of [some (iv b), some (iv pl), some (iv st), some (iv len), none] rfl (by decide) (Nat.le_of_ble_eq_true rfl) rfl ?_
  have hbb : 0 ≤ 5 * b * b ∧ 5 * b * b ≤ 2000 := ⟨Int.mul_nonneg (by omega) (by omega), by have := Int.mul_le_mul (a := 5 * b) (b := b) (c := 100) (d := 20) (by omega) (by omega) (by omega) (by omega); omega⟩
  have hq := @quoF_rng (5 * b * b) st hbb.1
  refine g_bipush dX1_lengthBy_0 (by decide) ?_
  refine g_iload1 dX1_lengthBy_2 ?_
  refine g_imul dX1_lengthBy_3 ?_
  refine g_iconst dX1_lengthBy_4 ?_
  refine g_iload0 dX1_lengthBy_5 ?_
  refine g_imul dX1_lengthBy_6 ?_
  refine g_iload0 dX1_lengthBy_7 ?_
  refine g_imul dX1_lengthBy_8 ?_
  refine g_iload2 dX1_lengthBy_9 ?_
  refine f_cS2w (quotient_ok ⟨by omega, by omega⟩ ⟨by omega, by omega⟩) oY_X5_quotient oT_X5_quotient lk_X1_95 rfl dX1_lengthBy_10 rfl (Or.inl rfl) ?_
  refine g_iadd dX1_lengthBy_13 ?_
  refine g_istore4 dX1_lengthBy_14 rfl (by decide) ?_
  refine g_iload4 dX1_lengthBy_16 ?_
  refine g_iload3 dX1_lengthBy_18 ?_
  refine g_icmp_ge ⟨by omega, by omega⟩ ⟨by omega, by omega⟩ (tgt := 38) dX1_lengthBy_19 rfl (fun h19 => ?_) (fun h19 => ?_)
  · refine g_iload3 dX1_lengthBy_38 ?_
    refine g_iretI rfl dX1_lengthBy_39 ?_
    exact Fw.ret (by unfold lenBy; first | rw [if_pos (by omega)] | rw [if_neg (by omega)])
  · refine g_iload4 dX1_lengthBy_22 ?_
    refine g_iload3 dX1_lengthBy_24 ?_
    refine g_iload4 dX1_lengthBy_25 ?_
    refine g_isub dX1_lengthBy_27 ?_
    refine g_iconst dX1_lengthBy_28 ?_
    refine g_iload2 dX1_lengthBy_29 ?_
    refine g_iadd dX1_lengthBy_30 ?_
    refine f_cS2w (quotient_ok ⟨by omega, by omega⟩ ⟨by omega, by omega⟩) oY_X5_quotient oT_X5_quotient lk_X1_95 rfl dX1_lengthBy_31 rfl (Or.inl rfl) ?_
    refine g_iadd dX1_lengthBy_34 ?_
    refine g_goto (tgt := 39) dX1_lengthBy_35 rfl ?_
    refine g_iretI rfl dX1_lengthBy_39 ?_
    exact Fw.ret (by unfold lenBy; first | rw [if_pos (by omega)] | rw [if_neg (by omega)])

theorem quoF_pos {a b : Int} (h : 0 < b) : quoF a b = a / b := if_pos h
def lcS (σ : sT) (lo P : Int) (h c : Nat) : sT := up (up (up (up (up (up σ 18 (lo + P) ((c ||| 2 ^ h : Nat) : Int)) 19 (lo + P) (σ 19 lo + 1)) 20 (lo + P) (σ 20 lo)) 18 (lo + P + P) ((c ||| 2 ^ (h + 7) : Nat) : Int)) 19 (lo + P + P) (σ 19 lo)) 20 (lo + P + P) (σ 20 lo + (if lo = P - 1 then 0 else 1))
theorem layCovers_ok {lo P : Int} {h c : Nat} (h0 : 0 ≤ lo) (hlt : lo < P) (hP : P ≤ 2187) (hh : h ≤ 6) (hc : σ 18 lo = (c : Int)) (h18 : lo + P + P < (ln l 18 : Int)) (h19 : lo + P + P < (ln l 19 : Int)) (h20 : lo + P + P < (ln l 20 : Int)) : FO g zX1_layCovers [.ref 17, iv lo, iv P, iv (h : Int)] σ l (lcS σ lo P h c) := by
  refine Fn.of [some (.ref 17), some (iv lo), some (iv P), some (iv (h : Int)), none, none, none] rfl (by decide) (Nat.le_of_ble_eq_true rfl) rfl ?_
  refine g_iload1 dX1_layCovers_0 ?_
  refine g_iload2 dX1_layCovers_1 ?_
  refine g_iadd dX1_layCovers_2 ?_
  refine g_istore4 dX1_layCovers_3 rfl (by decide) ?_
  refine g_aload0 dX1_layCovers_5 ?_
  refine f_getr (r := 18) rfl (by decide) rfl rfl fl_X1_15 dX1_layCovers_6 ?_
  refine g_iload4 dX1_layCovers_9 ?_
  refine g_aload0 dX1_layCovers_11 ?_
  refine f_getr (r := 18) rfl (by decide) rfl rfl fl_X1_15 dX1_layCovers_12 ?_
  refine g_iload1 dX1_layCovers_15 ?_
  refine f_cS2w (atI rfl (by decide) (by omega) (by omega)) oY_X5_at oT_X5_at lk_X1_57 rfl dX1_layCovers_16 rfl (Or.inl rfl) ?_
  rw [hc]
  refine g_iconst dX1_layCovers_19 ?_
  refine g_iload3 dX1_layCovers_20 ?_
  skip
  refine g_ishl (by omega) dX1_layCovers_21 ?_
  rw [Int.one_mul]
  refine g_ior dX1_layCovers_22 ?_
  refine f_cS3d (putI rfl (by decide) (by omega) (by omega)) oY_X5_put oT_X5_put lk_X1_65 rfl dX1_layCovers_23 rfl (Or.inl rfl) ?_
  refine g_aload0 dX1_layCovers_26 ?_
  refine f_getr (r := 19) rfl (by decide) rfl rfl fl_X1_19 dX1_layCovers_27 ?_
  refine g_iload4 dX1_layCovers_30 ?_
  refine g_aload0 dX1_layCovers_32 ?_
  refine f_getr (r := 19) rfl (by decide) rfl rfl fl_X1_19 dX1_layCovers_33 ?_
  refine g_iload1 dX1_layCovers_36 ?_
  refine f_cS2w (atI rfl (by decide) (by omega) (by omega)) oY_X5_at oT_X5_at lk_X1_57 rfl dX1_layCovers_37 rfl (Or.inl rfl) ?_
  simp (disch := omega) only [up_ne, up_eq]
  refine g_iconst dX1_layCovers_40 ?_
  refine g_iadd dX1_layCovers_41 ?_
  refine f_cS3d (putI rfl (by decide) (by omega) (by omega)) oY_X5_put oT_X5_put lk_X1_65 rfl dX1_layCovers_42 rfl (Or.inl rfl) ?_
  refine g_aload0 dX1_layCovers_45 ?_
  refine f_getr (r := 20) rfl (by decide) rfl rfl fl_X1_22 dX1_layCovers_46 ?_
  refine g_iload4 dX1_layCovers_49 ?_
  refine g_aload0 dX1_layCovers_51 ?_
  refine f_getr (r := 20) rfl (by decide) rfl rfl fl_X1_22 dX1_layCovers_52 ?_
  refine g_iload1 dX1_layCovers_55 ?_
  refine f_cS2w (atI rfl (by decide) (by omega) (by omega)) oY_X5_at oT_X5_at lk_X1_57 rfl dX1_layCovers_56 rfl (Or.inl rfl) ?_
  simp (disch := omega) only [up_ne, up_eq]
  refine f_cS3d (putI rfl (by decide) (by omega) (by omega)) oY_X5_put oT_X5_put lk_X1_65 rfl dX1_layCovers_59 rfl (Or.inl rfl) ?_
  refine g_iload4 dX1_layCovers_62 ?_
  refine g_iload2 dX1_layCovers_64 ?_
  refine g_iadd dX1_layCovers_65 ?_
  refine g_istore5 dX1_layCovers_66 rfl (by decide) ?_
  refine g_iload1 dX1_layCovers_68 ?_
  refine g_iload2 dX1_layCovers_69 ?_
  refine g_iconst dX1_layCovers_70 ?_
  refine g_isub dX1_layCovers_71 ?_
  refine g_icmp_ne ⟨by omega, by omega⟩ ⟨by omega, by omega⟩ (tgt := 79) dX1_layCovers_72 rfl (fun h72 => ?_) (fun h72 => ?_)
  · refine g_iconst dX1_layCovers_79 ?_
    refine g_istore6 dX1_layCovers_80 rfl (by decide) ?_
    refine g_aload0 dX1_layCovers_82 ?_
    refine f_getr (r := 18) rfl (by decide) rfl rfl fl_X1_15 dX1_layCovers_83 ?_
    refine g_iload5 dX1_layCovers_86 ?_
    refine g_aload0 dX1_layCovers_88 ?_
    refine f_getr (r := 18) rfl (by decide) rfl rfl fl_X1_15 dX1_layCovers_89 ?_
    refine g_iload1 dX1_layCovers_92 ?_
    refine f_cS2w (atI rfl (by decide) (by omega) (by omega)) oY_X5_at oT_X5_at lk_X1_57 rfl dX1_layCovers_93 rfl (Or.inl rfl) ?_
    simp (disch := omega) only [up_ne, up_eq]
    rw [hc]
    refine g_iconst dX1_layCovers_96 ?_
    refine g_iload3 dX1_layCovers_97 ?_
    refine g_bipush dX1_layCovers_98 (by decide) ?_
    refine g_iadd dX1_layCovers_100 ?_
    rw [show (h : Int) + 7 = ((h + 7 : Nat) : Int) from rfl]
    refine g_ishl (by omega) dX1_layCovers_101 ?_
    rw [Int.one_mul]
    refine g_ior dX1_layCovers_102 ?_
    refine f_cS3d (putI rfl (by decide) (by omega) (by omega)) oY_X5_put oT_X5_put lk_X1_65 rfl dX1_layCovers_103 rfl (Or.inl rfl) ?_
    refine g_aload0 dX1_layCovers_106 ?_
    refine f_getr (r := 19) rfl (by decide) rfl rfl fl_X1_19 dX1_layCovers_107 ?_
    refine g_iload5 dX1_layCovers_110 ?_
    refine g_aload0 dX1_layCovers_112 ?_
    refine f_getr (r := 19) rfl (by decide) rfl rfl fl_X1_19 dX1_layCovers_113 ?_
    refine g_iload1 dX1_layCovers_116 ?_
    refine f_cS2w (atI rfl (by decide) (by omega) (by omega)) oY_X5_at oT_X5_at lk_X1_57 rfl dX1_layCovers_117 rfl (Or.inl rfl) ?_
    simp (disch := omega) only [up_ne, up_eq]
    refine f_cS3d (putI rfl (by decide) (by omega) (by omega)) oY_X5_put oT_X5_put lk_X1_65 rfl dX1_layCovers_120 rfl (Or.inl rfl) ?_
    refine g_aload0 dX1_layCovers_123 ?_
    refine f_getr (r := 20) rfl (by decide) rfl rfl fl_X1_22 dX1_layCovers_124 ?_
    refine g_iload5 dX1_layCovers_127 ?_
    refine g_aload0 dX1_layCovers_129 ?_
    refine f_getr (r := 20) rfl (by decide) rfl rfl fl_X1_22 dX1_layCovers_130 ?_
    refine g_iload1 dX1_layCovers_133 ?_
    refine f_cS2w (atI rfl (by decide) (by omega) (by omega)) oY_X5_at oT_X5_at lk_X1_57 rfl dX1_layCovers_134 rfl (Or.inl rfl) ?_
    simp (disch := omega) only [up_ne, up_eq]
    refine g_iload6 dX1_layCovers_137 ?_
    refine g_if_eq ⟨by omega, by omega⟩ (tgt := 146) dX1_layCovers_139 rfl (fun h139 => ?_) (fun h139 => ?_)
    · refine g_iconst dX1_layCovers_146 ?_
      refine g_iadd dX1_layCovers_147 ?_
      refine f_cS3d (putI rfl (by decide) (by omega) (by omega)) oY_X5_put oT_X5_put lk_X1_65 rfl dX1_layCovers_148 rfl (Or.inl rfl) ?_
      refine g_return rfl dX1_layCovers_151 ?_
      first | (exfalso; omega; done) | exact FO.ret (by unfold lcS; first | rw [if_pos (by omega)] | rw [if_neg (by omega)])
    · refine g_iconst dX1_layCovers_142 ?_
      refine g_goto (tgt := 147) dX1_layCovers_143 rfl ?_
      refine g_iadd dX1_layCovers_147 ?_
      refine f_cS3d (putI rfl (by decide) (by omega) (by omega)) oY_X5_put oT_X5_put lk_X1_65 rfl dX1_layCovers_148 rfl (Or.inl rfl) ?_
      refine g_return rfl dX1_layCovers_151 ?_
      first | (exfalso; omega; done) | exact FO.ret (by unfold lcS; first | rw [if_pos (by omega)] | rw [if_neg (by omega)])
  · refine g_iconst dX1_layCovers_75 ?_
    refine g_goto (tgt := 80) dX1_layCovers_76 rfl ?_
    refine g_istore6 dX1_layCovers_80 rfl (by decide) ?_
    refine g_aload0 dX1_layCovers_82 ?_
    refine f_getr (r := 18) rfl (by decide) rfl rfl fl_X1_15 dX1_layCovers_83 ?_
    refine g_iload5 dX1_layCovers_86 ?_
    refine g_aload0 dX1_layCovers_88 ?_
    refine f_getr (r := 18) rfl (by decide) rfl rfl fl_X1_15 dX1_layCovers_89 ?_
    refine g_iload1 dX1_layCovers_92 ?_
    refine f_cS2w (atI rfl (by decide) (by omega) (by omega)) oY_X5_at oT_X5_at lk_X1_57 rfl dX1_layCovers_93 rfl (Or.inl rfl) ?_
    simp (disch := omega) only [up_ne, up_eq]
    rw [hc]
    refine g_iconst dX1_layCovers_96 ?_
    refine g_iload3 dX1_layCovers_97 ?_
    refine g_bipush dX1_layCovers_98 (by decide) ?_
    refine g_iadd dX1_layCovers_100 ?_
    rw [show (h : Int) + 7 = ((h + 7 : Nat) : Int) from rfl]
    refine g_ishl (by omega) dX1_layCovers_101 ?_
    rw [Int.one_mul]
    refine g_ior dX1_layCovers_102 ?_
    refine f_cS3d (putI rfl (by decide) (by omega) (by omega)) oY_X5_put oT_X5_put lk_X1_65 rfl dX1_layCovers_103 rfl (Or.inl rfl) ?_
    refine g_aload0 dX1_layCovers_106 ?_
    refine f_getr (r := 19) rfl (by decide) rfl rfl fl_X1_19 dX1_layCovers_107 ?_
    refine g_iload5 dX1_layCovers_110 ?_
    refine g_aload0 dX1_layCovers_112 ?_
    refine f_getr (r := 19) rfl (by decide) rfl rfl fl_X1_19 dX1_layCovers_113 ?_
    refine g_iload1 dX1_layCovers_116 ?_
    refine f_cS2w (atI rfl (by decide) (by omega) (by omega)) oY_X5_at oT_X5_at lk_X1_57 rfl dX1_layCovers_117 rfl (Or.inl rfl) ?_
    simp (disch := omega) only [up_ne, up_eq]
    refine f_cS3d (putI rfl (by decide) (by omega) (by omega)) oY_X5_put oT_X5_put lk_X1_65 rfl dX1_layCovers_120 rfl (Or.inl rfl) ?_
    refine g_aload0 dX1_layCovers_123 ?_
    refine f_getr (r := 20) rfl (by decide) rfl rfl fl_X1_22 dX1_layCovers_124 ?_
    refine g_iload5 dX1_layCovers_127 ?_
    refine g_aload0 dX1_layCovers_129 ?_
    refine f_getr (r := 20) rfl (by decide) rfl rfl fl_X1_22 dX1_layCovers_130 ?_
    refine g_iload1 dX1_layCovers_133 ?_
    refine f_cS2w (atI rfl (by decide) (by omega) (by omega)) oY_X5_at oT_X5_at lk_X1_57 rfl dX1_layCovers_134 rfl (Or.inl rfl) ?_
    simp (disch := omega) only [up_ne, up_eq]
    refine g_iload6 dX1_layCovers_137 ?_
    refine g_if_eq ⟨by omega, by omega⟩ (tgt := 146) dX1_layCovers_139 rfl (fun h139 => ?_) (fun h139 => ?_)
    · refine g_iconst dX1_layCovers_146 ?_
      refine g_iadd dX1_layCovers_147 ?_
      refine f_cS3d (putI rfl (by decide) (by omega) (by omega)) oY_X5_put oT_X5_put lk_X1_65 rfl dX1_layCovers_148 rfl (Or.inl rfl) ?_
      refine g_return rfl dX1_layCovers_151 ?_
      first | (exfalso; omega; done) | exact FO.ret (by unfold lcS; first | rw [if_pos (by omega)] | rw [if_neg (by omega)])
    · refine g_iconst dX1_layCovers_142 ?_
      refine g_goto (tgt := 147) dX1_layCovers_143 rfl ?_
      refine g_iadd dX1_layCovers_147 ?_
      refine f_cS3d (putI rfl (by decide) (by omega) (by omega)) oY_X5_put oT_X5_put lk_X1_65 rfl dX1_layCovers_148 rfl (Or.inl rfl) ?_
      refine g_return rfl dX1_layCovers_151 ?_
      first | (exfalso; omega; done) | exact FO.ret (by unfold lcS; first | rw [if_pos (by omega)] | rw [if_neg (by omega)])

def h1 (d : Int) : Int := if d = 1 then 1 else 0
def cb (k : Nat) (d : Int) : Nat := if d = 1 then 2 ^ k else if d = 2 then 2 ^ (k + 7) else 0
def cq (q d r : Int) : Int := if d = 2 ∧ r ≠ q - 1 then 1 else 0
theorem h1_0 : h1 0 = 0 := rfl
theorem h1_1 : h1 1 = 1 := rfl
theorem h1_2 : h1 2 = 0 := rfl
theorem cb_0 (k : Nat) : cb k 0 = 0 := rfl
theorem cb_1 (k : Nat) : cb k 1 = 2 ^ k := rfl
theorem cb_2 (k : Nat) : cb k 2 = 2 ^ (k + 7) := rfl
theorem cq_0 (q r : Int) : cq q 0 r = 0 := if_neg (fun h => absurd h.1 (by decide))
theorem cq_1 (q r : Int) : cq q 1 r = 0 := if_neg (fun h => absurd h.1 (by decide))
theorem cq_2 (q r : Int) : cq q 2 r = if r = q - 1 then 0 else 1 := by
  unfold cq
  by_cases h : r = q - 1
  · rw [if_neg (fun z => z.2 h), if_pos h]
  · rw [if_pos ⟨rfl, h⟩, if_neg h]
def cdN (p : Int) : Nat := cb 0 ((p) % 3) ||| cb 1 ((p) / 3 % 3) ||| cb 2 ((p) / 9 % 3) ||| cb 3 ((p) / 27 % 3) ||| cb 4 ((p) / 81 % 3) ||| cb 5 ((p) / 243 % 3) ||| cb 6 ((p) / 729 % 3)
def hvF (p : Int) : Int := h1 ((p) % 3) + h1 ((p) / 3 % 3) + h1 ((p) / 9 % 3) + h1 ((p) / 27 % 3) + h1 ((p) / 81 % 3) + h1 ((p) / 243 % 3) + h1 ((p) / 729 % 3)
def crF (p : Int) : Int := cq 3 ((p) / 3 % 3) (p % 3) + cq 9 ((p) / 9 % 3) (p % 9) + cq 27 ((p) / 27 % 3) (p % 27) + cq 81 ((p) / 81 % 3) (p % 81) + cq 243 ((p) / 243 % 3) (p % 243) + cq 729 ((p) / 729 % 3) (p % 729)
theorem st0_1 (t : Int) (h0 : 0 ≤ t) (hlt : t < 1) : cdN (t + 1) = cdN t ||| 2 ^ 0 ∧ hvF (t + 1) = hvF t + 1 ∧ crF (t + 1) = crF t + 0 := by
  have e0 : (t + 1) % 3 = 1 := by omega
  have z0 : (t) % 3 = 0 := by omega
  have e1 : (t + 1) / 3 % 3 = 0 := by omega
  have z1 : (t) / 3 % 3 = 0 := by omega
  have e2 : (t + 1) / 9 % 3 = 0 := by omega
  have z2 : (t) / 9 % 3 = 0 := by omega
  have e3 : (t + 1) / 27 % 3 = 0 := by omega
  have z3 : (t) / 27 % 3 = 0 := by omega
  have e4 : (t + 1) / 81 % 3 = 0 := by omega
  have z4 : (t) / 81 % 3 = 0 := by omega
  have e5 : (t + 1) / 243 % 3 = 0 := by omega
  have z5 : (t) / 243 % 3 = 0 := by omega
  have e6 : (t + 1) / 729 % 3 = 0 := by omega
  have z6 : (t) / 729 % 3 = 0 := by omega
  refine ⟨?_, ?_, ?_⟩
  · simp only [cdN, e0, e1, e2, e3, e4, e5, e6, z0, z1, z2, z3, z4, z5, z6, cb_0, cb_1, Nat.or_zero, Nat.zero_or]
    try ac_rfl
  · simp only [hvF, e0, e1, e2, e3, e4, e5, e6, z0, z1, z2, z3, z4, z5, z6, h1_0, h1_1]
    try omega
  · simp only [crF, e0, e1, e2, e3, e4, e5, e6, z0, z1, z2, z3, z4, z5, z6, cq_0, cq_1]
    try omega
theorem st0_2 (t : Int) (h0 : 0 ≤ t) (hlt : t < 1) : cdN (t + 2) = cdN t ||| 2 ^ 7 ∧ hvF (t + 2) = hvF t + 0 ∧ crF (t + 2) = crF t + (if t = 1 - 1 then 0 else 1) := by
  have e0 : (t + 2) % 3 = 2 := by omega
  have z0 : (t) % 3 = 0 := by omega
  have e1 : (t + 2) / 3 % 3 = 0 := by omega
  have z1 : (t) / 3 % 3 = 0 := by omega
  have e2 : (t + 2) / 9 % 3 = 0 := by omega
  have z2 : (t) / 9 % 3 = 0 := by omega
  have e3 : (t + 2) / 27 % 3 = 0 := by omega
  have z3 : (t) / 27 % 3 = 0 := by omega
  have e4 : (t + 2) / 81 % 3 = 0 := by omega
  have z4 : (t) / 81 % 3 = 0 := by omega
  have e5 : (t + 2) / 243 % 3 = 0 := by omega
  have z5 : (t) / 243 % 3 = 0 := by omega
  have e6 : (t + 2) / 729 % 3 = 0 := by omega
  have z6 : (t) / 729 % 3 = 0 := by omega
  refine ⟨?_, ?_, ?_⟩
  · simp only [cdN, e0, e1, e2, e3, e4, e5, e6, z0, z1, z2, z3, z4, z5, z6, cb_0, cb_2, Nat.or_zero, Nat.zero_or]
    try ac_rfl
  · simp only [hvF, e0, e1, e2, e3, e4, e5, e6, z0, z1, z2, z3, z4, z5, z6, h1_0, h1_2]
    try omega
  · have ht : t = 0 := by omega
    subst ht
    decide
theorem st1_1 (t : Int) (h0 : 0 ≤ t) (hlt : t < 3) : cdN (t + 3) = cdN t ||| 2 ^ 1 ∧ hvF (t + 3) = hvF t + 1 ∧ crF (t + 3) = crF t + 0 := by
  have e0 : (t + 3) % 3 = (t) % 3 := by omega
  have e1 : (t + 3) / 3 % 3 = 1 := by omega
  have z1 : (t) / 3 % 3 = 0 := by omega
  have r1 : (t + 3) % 3 = t % 3 := by omega
  have e2 : (t + 3) / 9 % 3 = 0 := by omega
  have z2 : (t) / 9 % 3 = 0 := by omega
  have e3 : (t + 3) / 27 % 3 = 0 := by omega
  have z3 : (t) / 27 % 3 = 0 := by omega
  have e4 : (t + 3) / 81 % 3 = 0 := by omega
  have z4 : (t) / 81 % 3 = 0 := by omega
  have e5 : (t + 3) / 243 % 3 = 0 := by omega
  have z5 : (t) / 243 % 3 = 0 := by omega
  have e6 : (t + 3) / 729 % 3 = 0 := by omega
  have z6 : (t) / 729 % 3 = 0 := by omega
  have rr : t % 3 = t := by omega
  refine ⟨?_, ?_, ?_⟩
  · simp only [cdN, e0, e1, e2, e3, e4, e5, e6, z1, z2, z3, z4, z5, z6, cb_0, cb_1, Nat.or_zero, Nat.zero_or]
    try ac_rfl
  · simp only [hvF, e0, e1, e2, e3, e4, e5, e6, z1, z2, z3, z4, z5, z6, h1_0, h1_1]
    try omega
  · simp only [crF, e0, e1, e2, e3, e4, e5, e6, z1, z2, z3, z4, z5, z6, r1, cq_0, cq_1]
    try omega
theorem st1_2 (t : Int) (h0 : 0 ≤ t) (hlt : t < 3) : cdN (t + 6) = cdN t ||| 2 ^ 8 ∧ hvF (t + 6) = hvF t + 0 ∧ crF (t + 6) = crF t + (if t = 3 - 1 then 0 else 1) := by
  have e0 : (t + 6) % 3 = (t) % 3 := by omega
  have e1 : (t + 6) / 3 % 3 = 2 := by omega
  have z1 : (t) / 3 % 3 = 0 := by omega
  have r1 : (t + 6) % 3 = t % 3 := by omega
  have e2 : (t + 6) / 9 % 3 = 0 := by omega
  have z2 : (t) / 9 % 3 = 0 := by omega
  have e3 : (t + 6) / 27 % 3 = 0 := by omega
  have z3 : (t) / 27 % 3 = 0 := by omega
  have e4 : (t + 6) / 81 % 3 = 0 := by omega
  have z4 : (t) / 81 % 3 = 0 := by omega
  have e5 : (t + 6) / 243 % 3 = 0 := by omega
  have z5 : (t) / 243 % 3 = 0 := by omega
  have e6 : (t + 6) / 729 % 3 = 0 := by omega
  have z6 : (t) / 729 % 3 = 0 := by omega
  have rr : t % 3 = t := by omega
  refine ⟨?_, ?_, ?_⟩
  · simp only [cdN, e0, e1, e2, e3, e4, e5, e6, z1, z2, z3, z4, z5, z6, cb_0, cb_2, Nat.or_zero, Nat.zero_or]
    try ac_rfl
  · simp only [hvF, e0, e1, e2, e3, e4, e5, e6, z1, z2, z3, z4, z5, z6, h1_0, h1_2]
    try omega
  · simp only [crF, e0, e1, e2, e3, e4, e5, e6, z1, z2, z3, z4, z5, z6, r1, rr, cq_0, cq_2]
    try omega
theorem st2_1 (t : Int) (h0 : 0 ≤ t) (hlt : t < 9) : cdN (t + 9) = cdN t ||| 2 ^ 2 ∧ hvF (t + 9) = hvF t + 1 ∧ crF (t + 9) = crF t + 0 := by
  have e0 : (t + 9) % 3 = (t) % 3 := by omega
  have e1 : (t + 9) / 3 % 3 = (t) / 3 % 3 := by omega
  have r1 : (t + 9) % 3 = t % 3 := by omega
  have e2 : (t + 9) / 9 % 3 = 1 := by omega
  have z2 : (t) / 9 % 3 = 0 := by omega
  have r2 : (t + 9) % 9 = t % 9 := by omega
  have e3 : (t + 9) / 27 % 3 = 0 := by omega
  have z3 : (t) / 27 % 3 = 0 := by omega
  have e4 : (t + 9) / 81 % 3 = 0 := by omega
  have z4 : (t) / 81 % 3 = 0 := by omega
  have e5 : (t + 9) / 243 % 3 = 0 := by omega
  have z5 : (t) / 243 % 3 = 0 := by omega
  have e6 : (t + 9) / 729 % 3 = 0 := by omega
  have z6 : (t) / 729 % 3 = 0 := by omega
  have rr : t % 9 = t := by omega
  refine ⟨?_, ?_, ?_⟩
  · simp only [cdN, e0, e1, e2, e3, e4, e5, e6, z2, z3, z4, z5, z6, cb_0, cb_1, Nat.or_zero, Nat.zero_or]
    try ac_rfl
  · simp only [hvF, e0, e1, e2, e3, e4, e5, e6, z2, z3, z4, z5, z6, h1_0, h1_1]
    try omega
  · simp only [crF, e0, e1, e2, e3, e4, e5, e6, z2, z3, z4, z5, z6, r1, r2, cq_0, cq_1]
    try omega
theorem st2_2 (t : Int) (h0 : 0 ≤ t) (hlt : t < 9) : cdN (t + 18) = cdN t ||| 2 ^ 9 ∧ hvF (t + 18) = hvF t + 0 ∧ crF (t + 18) = crF t + (if t = 9 - 1 then 0 else 1) := by
  have e0 : (t + 18) % 3 = (t) % 3 := by omega
  have e1 : (t + 18) / 3 % 3 = (t) / 3 % 3 := by omega
  have r1 : (t + 18) % 3 = t % 3 := by omega
  have e2 : (t + 18) / 9 % 3 = 2 := by omega
  have z2 : (t) / 9 % 3 = 0 := by omega
  have r2 : (t + 18) % 9 = t % 9 := by omega
  have e3 : (t + 18) / 27 % 3 = 0 := by omega
  have z3 : (t) / 27 % 3 = 0 := by omega
  have e4 : (t + 18) / 81 % 3 = 0 := by omega
  have z4 : (t) / 81 % 3 = 0 := by omega
  have e5 : (t + 18) / 243 % 3 = 0 := by omega
  have z5 : (t) / 243 % 3 = 0 := by omega
  have e6 : (t + 18) / 729 % 3 = 0 := by omega
  have z6 : (t) / 729 % 3 = 0 := by omega
  have rr : t % 9 = t := by omega
  refine ⟨?_, ?_, ?_⟩
  · simp only [cdN, e0, e1, e2, e3, e4, e5, e6, z2, z3, z4, z5, z6, cb_0, cb_2, Nat.or_zero, Nat.zero_or]
    try ac_rfl
  · simp only [hvF, e0, e1, e2, e3, e4, e5, e6, z2, z3, z4, z5, z6, h1_0, h1_2]
    try omega
  · simp only [crF, e0, e1, e2, e3, e4, e5, e6, z2, z3, z4, z5, z6, r1, r2, rr, cq_0, cq_2]
    try omega
theorem st3_1 (t : Int) (h0 : 0 ≤ t) (hlt : t < 27) : cdN (t + 27) = cdN t ||| 2 ^ 3 ∧ hvF (t + 27) = hvF t + 1 ∧ crF (t + 27) = crF t + 0 := by
  have e0 : (t + 27) % 3 = (t) % 3 := by omega
  have e1 : (t + 27) / 3 % 3 = (t) / 3 % 3 := by omega
  have r1 : (t + 27) % 3 = t % 3 := by omega
  have e2 : (t + 27) / 9 % 3 = (t) / 9 % 3 := by omega
  have r2 : (t + 27) % 9 = t % 9 := by omega
  have e3 : (t + 27) / 27 % 3 = 1 := by omega
  have z3 : (t) / 27 % 3 = 0 := by omega
  have r3 : (t + 27) % 27 = t % 27 := by omega
  have e4 : (t + 27) / 81 % 3 = 0 := by omega
  have z4 : (t) / 81 % 3 = 0 := by omega
  have e5 : (t + 27) / 243 % 3 = 0 := by omega
  have z5 : (t) / 243 % 3 = 0 := by omega
  have e6 : (t + 27) / 729 % 3 = 0 := by omega
  have z6 : (t) / 729 % 3 = 0 := by omega
  have rr : t % 27 = t := by omega
  refine ⟨?_, ?_, ?_⟩
  · simp only [cdN, e0, e1, e2, e3, e4, e5, e6, z3, z4, z5, z6, cb_0, cb_1, Nat.or_zero, Nat.zero_or]
    try ac_rfl
  · simp only [hvF, e0, e1, e2, e3, e4, e5, e6, z3, z4, z5, z6, h1_0, h1_1]
    try omega
  · simp only [crF, e0, e1, e2, e3, e4, e5, e6, z3, z4, z5, z6, r1, r2, r3, cq_0, cq_1]
    try omega
theorem st3_2 (t : Int) (h0 : 0 ≤ t) (hlt : t < 27) : cdN (t + 54) = cdN t ||| 2 ^ 10 ∧ hvF (t + 54) = hvF t + 0 ∧ crF (t + 54) = crF t + (if t = 27 - 1 then 0 else 1) := by
  have e0 : (t + 54) % 3 = (t) % 3 := by omega
  have e1 : (t + 54) / 3 % 3 = (t) / 3 % 3 := by omega
  have r1 : (t + 54) % 3 = t % 3 := by omega
  have e2 : (t + 54) / 9 % 3 = (t) / 9 % 3 := by omega
  have r2 : (t + 54) % 9 = t % 9 := by omega
  have e3 : (t + 54) / 27 % 3 = 2 := by omega
  have z3 : (t) / 27 % 3 = 0 := by omega
  have r3 : (t + 54) % 27 = t % 27 := by omega
  have e4 : (t + 54) / 81 % 3 = 0 := by omega
  have z4 : (t) / 81 % 3 = 0 := by omega
  have e5 : (t + 54) / 243 % 3 = 0 := by omega
  have z5 : (t) / 243 % 3 = 0 := by omega
  have e6 : (t + 54) / 729 % 3 = 0 := by omega
  have z6 : (t) / 729 % 3 = 0 := by omega
  have rr : t % 27 = t := by omega
  refine ⟨?_, ?_, ?_⟩
  · simp only [cdN, e0, e1, e2, e3, e4, e5, e6, z3, z4, z5, z6, cb_0, cb_2, Nat.or_zero, Nat.zero_or]
    try ac_rfl
  · simp only [hvF, e0, e1, e2, e3, e4, e5, e6, z3, z4, z5, z6, h1_0, h1_2]
    try omega
  · simp only [crF, e0, e1, e2, e3, e4, e5, e6, z3, z4, z5, z6, r1, r2, r3, rr, cq_0, cq_2]
    try omega
theorem st4_1 (t : Int) (h0 : 0 ≤ t) (hlt : t < 81) : cdN (t + 81) = cdN t ||| 2 ^ 4 ∧ hvF (t + 81) = hvF t + 1 ∧ crF (t + 81) = crF t + 0 := by
  have e0 : (t + 81) % 3 = (t) % 3 := by omega
  have e1 : (t + 81) / 3 % 3 = (t) / 3 % 3 := by omega
  have r1 : (t + 81) % 3 = t % 3 := by omega
  have e2 : (t + 81) / 9 % 3 = (t) / 9 % 3 := by omega
  have r2 : (t + 81) % 9 = t % 9 := by omega
  have e3 : (t + 81) / 27 % 3 = (t) / 27 % 3 := by omega
  have r3 : (t + 81) % 27 = t % 27 := by omega
  have e4 : (t + 81) / 81 % 3 = 1 := by omega
  have z4 : (t) / 81 % 3 = 0 := by omega
  have r4 : (t + 81) % 81 = t % 81 := by omega
  have e5 : (t + 81) / 243 % 3 = 0 := by omega
  have z5 : (t) / 243 % 3 = 0 := by omega
  have e6 : (t + 81) / 729 % 3 = 0 := by omega
  have z6 : (t) / 729 % 3 = 0 := by omega
  have rr : t % 81 = t := by omega
  refine ⟨?_, ?_, ?_⟩
  · simp only [cdN, e0, e1, e2, e3, e4, e5, e6, z4, z5, z6, cb_0, cb_1, Nat.or_zero, Nat.zero_or]
    try ac_rfl
  · simp only [hvF, e0, e1, e2, e3, e4, e5, e6, z4, z5, z6, h1_0, h1_1]
    try omega
  · simp only [crF, e0, e1, e2, e3, e4, e5, e6, z4, z5, z6, r1, r2, r3, r4, cq_0, cq_1]
    try omega
theorem st4_2 (t : Int) (h0 : 0 ≤ t) (hlt : t < 81) : cdN (t + 162) = cdN t ||| 2 ^ 11 ∧ hvF (t + 162) = hvF t + 0 ∧ crF (t + 162) = crF t + (if t = 81 - 1 then 0 else 1) := by
  have e0 : (t + 162) % 3 = (t) % 3 := by omega
  have e1 : (t + 162) / 3 % 3 = (t) / 3 % 3 := by omega
  have r1 : (t + 162) % 3 = t % 3 := by omega
  have e2 : (t + 162) / 9 % 3 = (t) / 9 % 3 := by omega
  have r2 : (t + 162) % 9 = t % 9 := by omega
  have e3 : (t + 162) / 27 % 3 = (t) / 27 % 3 := by omega
  have r3 : (t + 162) % 27 = t % 27 := by omega
  have e4 : (t + 162) / 81 % 3 = 2 := by omega
  have z4 : (t) / 81 % 3 = 0 := by omega
  have r4 : (t + 162) % 81 = t % 81 := by omega
  have e5 : (t + 162) / 243 % 3 = 0 := by omega
  have z5 : (t) / 243 % 3 = 0 := by omega
  have e6 : (t + 162) / 729 % 3 = 0 := by omega
  have z6 : (t) / 729 % 3 = 0 := by omega
  have rr : t % 81 = t := by omega
  refine ⟨?_, ?_, ?_⟩
  · simp only [cdN, e0, e1, e2, e3, e4, e5, e6, z4, z5, z6, cb_0, cb_2, Nat.or_zero, Nat.zero_or]
    try ac_rfl
  · simp only [hvF, e0, e1, e2, e3, e4, e5, e6, z4, z5, z6, h1_0, h1_2]
    try omega
  · simp only [crF, e0, e1, e2, e3, e4, e5, e6, z4, z5, z6, r1, r2, r3, r4, rr, cq_0, cq_2]
    try omega
theorem st5_1 (t : Int) (h0 : 0 ≤ t) (hlt : t < 243) : cdN (t + 243) = cdN t ||| 2 ^ 5 ∧ hvF (t + 243) = hvF t + 1 ∧ crF (t + 243) = crF t + 0 := by
  have e0 : (t + 243) % 3 = (t) % 3 := by omega
  have e1 : (t + 243) / 3 % 3 = (t) / 3 % 3 := by omega
  have r1 : (t + 243) % 3 = t % 3 := by omega
  have e2 : (t + 243) / 9 % 3 = (t) / 9 % 3 := by omega
  have r2 : (t + 243) % 9 = t % 9 := by omega
  have e3 : (t + 243) / 27 % 3 = (t) / 27 % 3 := by omega
  have r3 : (t + 243) % 27 = t % 27 := by omega
  have e4 : (t + 243) / 81 % 3 = (t) / 81 % 3 := by omega
  have r4 : (t + 243) % 81 = t % 81 := by omega
  have e5 : (t + 243) / 243 % 3 = 1 := by omega
  have z5 : (t) / 243 % 3 = 0 := by omega
  have r5 : (t + 243) % 243 = t % 243 := by omega
  have e6 : (t + 243) / 729 % 3 = 0 := by omega
  have z6 : (t) / 729 % 3 = 0 := by omega
  have rr : t % 243 = t := by omega
  refine ⟨?_, ?_, ?_⟩
  · simp only [cdN, e0, e1, e2, e3, e4, e5, e6, z5, z6, cb_0, cb_1, Nat.or_zero, Nat.zero_or]
    try ac_rfl
  · simp only [hvF, e0, e1, e2, e3, e4, e5, e6, z5, z6, h1_0, h1_1]
    try omega
  · simp only [crF, e0, e1, e2, e3, e4, e5, e6, z5, z6, r1, r2, r3, r4, r5, cq_0, cq_1]
    try omega
theorem st5_2 (t : Int) (h0 : 0 ≤ t) (hlt : t < 243) : cdN (t + 486) = cdN t ||| 2 ^ 12 ∧ hvF (t + 486) = hvF t + 0 ∧ crF (t + 486) = crF t + (if t = 243 - 1 then 0 else 1) := by
  have e0 : (t + 486) % 3 = (t) % 3 := by omega
  have e1 : (t + 486) / 3 % 3 = (t) / 3 % 3 := by omega
  have r1 : (t + 486) % 3 = t % 3 := by omega
  have e2 : (t + 486) / 9 % 3 = (t) / 9 % 3 := by omega
  have r2 : (t + 486) % 9 = t % 9 := by omega
  have e3 : (t + 486) / 27 % 3 = (t) / 27 % 3 := by omega
  have r3 : (t + 486) % 27 = t % 27 := by omega
  have e4 : (t + 486) / 81 % 3 = (t) / 81 % 3 := by omega
  have r4 : (t + 486) % 81 = t % 81 := by omega
  have e5 : (t + 486) / 243 % 3 = 2 := by omega
  have z5 : (t) / 243 % 3 = 0 := by omega
  have r5 : (t + 486) % 243 = t % 243 := by omega
  have e6 : (t + 486) / 729 % 3 = 0 := by omega
  have z6 : (t) / 729 % 3 = 0 := by omega
  have rr : t % 243 = t := by omega
  refine ⟨?_, ?_, ?_⟩
  · simp only [cdN, e0, e1, e2, e3, e4, e5, e6, z5, z6, cb_0, cb_2, Nat.or_zero, Nat.zero_or]
    try ac_rfl
  · simp only [hvF, e0, e1, e2, e3, e4, e5, e6, z5, z6, h1_0, h1_2]
    try omega
  · simp only [crF, e0, e1, e2, e3, e4, e5, e6, z5, z6, r1, r2, r3, r4, r5, rr, cq_0, cq_2]
    try omega
theorem st6_1 (t : Int) (h0 : 0 ≤ t) (hlt : t < 729) : cdN (t + 729) = cdN t ||| 2 ^ 6 ∧ hvF (t + 729) = hvF t + 1 ∧ crF (t + 729) = crF t + 0 := by
  have e0 : (t + 729) % 3 = (t) % 3 := by omega
  have e1 : (t + 729) / 3 % 3 = (t) / 3 % 3 := by omega
  have r1 : (t + 729) % 3 = t % 3 := by omega
  have e2 : (t + 729) / 9 % 3 = (t) / 9 % 3 := by omega
  have r2 : (t + 729) % 9 = t % 9 := by omega
  have e3 : (t + 729) / 27 % 3 = (t) / 27 % 3 := by omega
  have r3 : (t + 729) % 27 = t % 27 := by omega
  have e4 : (t + 729) / 81 % 3 = (t) / 81 % 3 := by omega
  have r4 : (t + 729) % 81 = t % 81 := by omega
  have e5 : (t + 729) / 243 % 3 = (t) / 243 % 3 := by omega
  have r5 : (t + 729) % 243 = t % 243 := by omega
  have e6 : (t + 729) / 729 % 3 = 1 := by omega
  have z6 : (t) / 729 % 3 = 0 := by omega
  have r6 : (t + 729) % 729 = t % 729 := by omega
  have rr : t % 729 = t := by omega
  refine ⟨?_, ?_, ?_⟩
  · simp only [cdN, e0, e1, e2, e3, e4, e5, e6, z6, cb_0, cb_1, Nat.or_zero, Nat.zero_or]
    try ac_rfl
  · simp only [hvF, e0, e1, e2, e3, e4, e5, e6, z6, h1_0, h1_1]
    try omega
  · simp only [crF, e0, e1, e2, e3, e4, e5, e6, z6, r1, r2, r3, r4, r5, r6, cq_0, cq_1]
    try omega
theorem st6_2 (t : Int) (h0 : 0 ≤ t) (hlt : t < 729) : cdN (t + 1458) = cdN t ||| 2 ^ 13 ∧ hvF (t + 1458) = hvF t + 0 ∧ crF (t + 1458) = crF t + (if t = 729 - 1 then 0 else 1) := by
  have e0 : (t + 1458) % 3 = (t) % 3 := by omega
  have e1 : (t + 1458) / 3 % 3 = (t) / 3 % 3 := by omega
  have r1 : (t + 1458) % 3 = t % 3 := by omega
  have e2 : (t + 1458) / 9 % 3 = (t) / 9 % 3 := by omega
  have r2 : (t + 1458) % 9 = t % 9 := by omega
  have e3 : (t + 1458) / 27 % 3 = (t) / 27 % 3 := by omega
  have r3 : (t + 1458) % 27 = t % 27 := by omega
  have e4 : (t + 1458) / 81 % 3 = (t) / 81 % 3 := by omega
  have r4 : (t + 1458) % 81 = t % 81 := by omega
  have e5 : (t + 1458) / 243 % 3 = (t) / 243 % 3 := by omega
  have r5 : (t + 1458) % 243 = t % 243 := by omega
  have e6 : (t + 1458) / 729 % 3 = 2 := by omega
  have z6 : (t) / 729 % 3 = 0 := by omega
  have r6 : (t + 1458) % 729 = t % 729 := by omega
  have rr : t % 729 = t := by omega
  refine ⟨?_, ?_, ?_⟩
  · simp only [cdN, e0, e1, e2, e3, e4, e5, e6, z6, cb_0, cb_2, Nat.or_zero, Nat.zero_or]
    try ac_rfl
  · simp only [hvF, e0, e1, e2, e3, e4, e5, e6, z6, h1_0, h1_2]
    try omega
  · simp only [crF, e0, e1, e2, e3, e4, e5, e6, z6, r1, r2, r3, r4, r5, r6, rr, cq_0, cq_2]
    try omega
theorem st_1 {h : Nat} {t P : Int} (hh : h ≤ 6) (hP : P = ((3 ^ h : Nat) : Int)) (h0 : 0 ≤ t) (hlt : t < P) : cdN (t + P) = cdN t ||| 2 ^ h ∧ hvF (t + P) = hvF t + 1 ∧ crF (t + P) = crF t := by
  subst hP
  rcases h with _ | _ | _ | _ | _ | _ | _ | h
  all_goals first | omega | skip
  · have := st0_1 t h0 (by simpa using hlt); simpa using this
  · have := st1_1 t h0 (by simpa using hlt); simpa using this
  · have := st2_1 t h0 (by simpa using hlt); simpa using this
  · have := st3_1 t h0 (by simpa using hlt); simpa using this
  · have := st4_1 t h0 (by simpa using hlt); simpa using this
  · have := st5_1 t h0 (by simpa using hlt); simpa using this
  · have := st6_1 t h0 (by simpa using hlt); simpa using this
theorem st_2 {h : Nat} {t P : Int} (hh : h ≤ 6) (hP : P = ((3 ^ h : Nat) : Int)) (h0 : 0 ≤ t) (hlt : t < P) : cdN (t + P + P) = cdN t ||| 2 ^ (h + 7) ∧ hvF (t + P + P) = hvF t ∧ crF (t + P + P) = crF t + (if t = P - 1 then 0 else 1) := by
  rcases h with _ | _ | _ | _ | _ | _ | _ | h
  · have hP2 : P = 1 := hP.trans (by decide)
    subst hP2
    have h9 := st0_2 t h0 hlt
    rw [Int.add_zero] at h9
    rw [show t + 1 + 1 = t + 2 from by omega]
    exact h9
  · have hP2 : P = 3 := hP.trans (by decide)
    subst hP2
    have h9 := st1_2 t h0 hlt
    rw [Int.add_zero] at h9
    rw [show t + 3 + 3 = t + 6 from by omega]
    exact h9
  · have hP2 : P = 9 := hP.trans (by decide)
    subst hP2
    have h9 := st2_2 t h0 hlt
    rw [Int.add_zero] at h9
    rw [show t + 9 + 9 = t + 18 from by omega]
    exact h9
  · have hP2 : P = 27 := hP.trans (by decide)
    subst hP2
    have h9 := st3_2 t h0 hlt
    rw [Int.add_zero] at h9
    rw [show t + 27 + 27 = t + 54 from by omega]
    exact h9
  · have hP2 : P = 81 := hP.trans (by decide)
    subst hP2
    have h9 := st4_2 t h0 hlt
    rw [Int.add_zero] at h9
    rw [show t + 81 + 81 = t + 162 from by omega]
    exact h9
  · have hP2 : P = 243 := hP.trans (by decide)
    subst hP2
    have h9 := st5_2 t h0 hlt
    rw [Int.add_zero] at h9
    rw [show t + 243 + 243 = t + 486 from by omega]
    exact h9
  · have hP2 : P = 729 := hP.trans (by decide)
    subst hP2
    have h9 := st6_2 t h0 hlt
    rw [Int.add_zero] at h9
    rw [show t + 729 + 729 = t + 1458 from by omega]
    exact h9
  · omega
end C22
