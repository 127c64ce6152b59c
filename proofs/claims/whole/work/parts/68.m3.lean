/-! The model: good plays, costs, notes -/
section C68
variable {g : gT} {σ : sT} {l : Nat → Nat}
theorem pdv_h {m h a b : Int} (h1 : a ≠ b) (h2 : a = 1 ∨ b = 1) : pd m h a b = h := by unfold pd; rw [if_neg h1, if_pos h2]
theorem pdv_m {m h a b : Int} (h1 : a ≠ b) (h2 : ¬ (a = 1 ∨ b = 1)) : pd m h a b = m := by unfold pd; rw [if_neg h1, if_neg h2]
theorem teP_iff {cR : Int → Int} {c0 tol hv cr p t : Int} (ht : 0 ≤ t) : (tnP cR c0 tol p = t ∧ hvF (fgF c0 p) ≤ hv ∧ crF (fgF c0 p) ≤ cr) ↔ teP cR c0 tol hv cr p = t := by
  unfold teP
  constructor
  · intro z
    rw [if_pos ⟨by omega, z.2⟩]; exact z.1
  · intro z
    split at z
    · next h => exact ⟨z, h.2⟩
    · omega
theorem isGood_m {B : Int} {s : Int → Int} (ho : SOK B s) (hL : LdP σ s) {p : Int} (hp : 0 ≤ p ∧ p < 2 * ((3 ^ wH s : Nat) : Int)) {t m mc : Int} (ht : 0 ≤ t ∧ t ≤ 100) (hm : R32 m) (hmc : R32 mc) : Fw g zX6_isGood [.ref 92, iv p, iv t, iv m, iv mc] σ l (bv (wTE s m mc p = t)) := by
  have hp3 := p3_le ho.h7
  obtain ⟨hq1, hq2, hq3⟩ := hL.2 p hp.1 hp.2
  have hr1 := tonF_rng (tol := s 2) (wCn_rng ho p).1
  rw [← wT_eq] at hr1
  have hr2 := hvF_rng (fgF ((3 ^ wH s : Nat) : Int) p)
  have hr3 := crF_rng (fgF ((3 ^ wH s : Nat) : Int) p)
  refine Fn.of [some (.ref 92), some (iv p), some (iv t), some (iv m), some (iv mc)] rfl (by decide) (Nat.le_of_ble_eq_true rfl) rfl ?_
  refine g_aload0 dX6_isGood_0 ?_
  refine f_getr (r := 99) rfl (by decide) rfl rfl fl_X6_30 dX6_isGood_1 ?_
  refine g_iload1 dX6_isGood_4 ?_
  refine f_iald rfl (by decide) ⟨by omega, by show _ < ((4374 : Nat) : Int); omega⟩ dX6_isGood_5 ?_
  rw [hq1]
  refine g_iload2 dX6_isGood_6 ?_
  refine g_icmp_ne ⟨by omega, by omega⟩ ⟨by omega, by omega⟩ (tgt := 35) dX6_isGood_7 rfl (fun h7 => ?_) (fun h7 => ?_)
  · refine g_iconst dX6_isGood_35 ?_
    refine g_iretB (Or.inl rfl) rfl dX6_isGood_36 ?_
    first
      | exact Fw.ret (by rw [if_neg (fun z => h7 ((teP_iff ht.1).mpr z).1)])
      | exact Fw.ret (by rw [if_neg (fun z => by have := ((teP_iff ht.1).mpr z).2.1; omega)])
      | exact Fw.ret (by rw [if_neg (fun z => by have := ((teP_iff ht.1).mpr z).2.2; omega)])
  · refine g_aload0 dX6_isGood_10 ?_
    refine f_getr (r := 100) rfl (by decide) rfl rfl fl_X6_33 dX6_isGood_11 ?_
    refine g_iload1 dX6_isGood_14 ?_
    refine f_iald rfl (by decide) ⟨by omega, by show _ < ((4374 : Nat) : Int); omega⟩ dX6_isGood_15 ?_
    rw [hq2]
    refine g_iload3 dX6_isGood_16 ?_
    refine g_icmp_gt ⟨by omega, by omega⟩ hm (tgt := 35) dX6_isGood_17 rfl (fun h17 => ?_) (fun h17 => ?_)
    · refine g_iconst dX6_isGood_35 ?_
      refine g_iretB (Or.inl rfl) rfl dX6_isGood_36 ?_
      first
        | exact Fw.ret (by rw [if_neg (fun z => h7 ((teP_iff ht.1).mpr z).1)])
        | exact Fw.ret (by rw [if_neg (fun z => by have := ((teP_iff ht.1).mpr z).2.1; omega)])
        | exact Fw.ret (by rw [if_neg (fun z => by have := ((teP_iff ht.1).mpr z).2.2; omega)])
    · refine g_aload0 dX6_isGood_20 ?_
      refine f_getr (r := 101) rfl (by decide) rfl rfl fl_X6_36 dX6_isGood_21 ?_
      refine g_iload1 dX6_isGood_24 ?_
      refine f_iald rfl (by decide) ⟨by omega, by show _ < ((4374 : Nat) : Int); omega⟩ dX6_isGood_25 ?_
      rw [hq3]
      refine g_iload4 dX6_isGood_26 ?_
      refine g_icmp_gt ⟨by omega, by omega⟩ hmc (tgt := 35) dX6_isGood_28 rfl (fun h28 => ?_) (fun h28 => ?_)
      · refine g_iconst dX6_isGood_35 ?_
        refine g_iretB (Or.inl rfl) rfl dX6_isGood_36 ?_
        first
          | exact Fw.ret (by rw [if_neg (fun z => h7 ((teP_iff ht.1).mpr z).1)])
          | exact Fw.ret (by rw [if_neg (fun z => by have := ((teP_iff ht.1).mpr z).2.1; omega)])
          | exact Fw.ret (by rw [if_neg (fun z => by have := ((teP_iff ht.1).mpr z).2.2; omega)])
      · refine g_iconst dX6_isGood_31 ?_
        refine g_goto (tgt := 36) dX6_isGood_32 rfl ?_
        refine g_iretB (Or.inr rfl) rfl dX6_isGood_36 ?_
        exact Fw.ret (by rw [if_pos ((teP_iff ht.1).mp ⟨h7, h17, h28⟩)])
theorem isEasyOf_m {B : Int} {s : Int → Int} (ho : SOK B s) (hs : σ 93 = s) (hL : LdP σ s) {p : Int} (hp : 0 ≤ p ∧ p < 2 * ((3 ^ wH s : Nat) : Int)) {t : Int} (ht : 0 ≤ t ∧ t ≤ 100) : Fw g zX6_isEasyOf [.ref 92, iv p, iv t] σ l (bv (wTe s p = t)) := by
  refine Fn.of [some (.ref 92), some (iv p), some (iv t)] rfl (by decide) (Nat.le_of_ble_eq_true rfl) rfl ?_
  refine g_aload0 dX6_isEasyOf_0 ?_
  refine g_iload1 dX6_isEasyOf_1 ?_
  refine g_iload2 dX6_isEasyOf_2 ?_
  refine g_aload0 dX6_isEasyOf_3 ?_
  refine f_getr (r := 93) rfl (by decide) rfl rfl fl_X6_7 dX6_isEasyOf_4 ?_
  try rw [hs]
  refine g_iconst dX6_isEasyOf_7 ?_
  refine f_iald rfl (by decide) ⟨by omega, by show _ < ((67 : Nat) : Int); omega⟩ dX6_isEasyOf_8 ?_
  try rw [hs]
  refine g_aload0 dX6_isEasyOf_9 ?_
  refine f_getr (r := 93) rfl (by decide) rfl rfl fl_X6_7 dX6_isEasyOf_10 ?_
  try rw [hs]
  refine g_iconst dX6_isEasyOf_13 ?_
  refine f_iald rfl (by decide) ⟨by omega, by show _ < ((67 : Nat) : Int); omega⟩ dX6_isEasyOf_14 ?_
  try rw [hs]
  refine f_cV4w (isGood_m ho hL hp ht ⟨by have := ho.halves; omega, by have := ho.halves; omega⟩ ⟨by have := ho.crosses; omega, by have := ho.crosses; omega⟩) rfl (by decide) rfl oY_X6_isGood oI_X6_isGood lk_X6_139 rfl dX6_isEasyOf_15 rfl (Or.inl rfl) ?_
  refine g_iretP rfl dX6_isEasyOf_18 ?_
  exact Fw.ret rfl
theorem cost_m {B : Int} {s : Int → Int} (ho : SOK B s) (hs : σ 93 = s) {p q : Int} (hp : 0 ≤ p ∧ p < 2 * ((3 ^ wH s : Nat) : Int)) (hq : 0 ≤ q ∧ q < 2 * ((3 ^ wH s : Nat) : Int)) : Fw g zX6_costOf [.ref 92, iv p, iv q] σ l (iv (wCo s p q)) := by
  have h7 := ho.h7
  have hI := ho.hI
  have hp3 := p3_le h7
  refine Fn.of [some (.ref 92), some (iv p), some (iv q), none, none, none, none] rfl (by decide) (Nat.le_of_ble_eq_true rfl) rfl ?_
  have loop : ∀ k : Nat, k ≤ wH s → ∀ (i v : Int) (u5 u6 : Option Value), i = (k : Int) → v = dC (s 6) (s 7) k p q + (if (p < ((3 ^ wH s : Nat) : Int) ↔ q < ((3 ^ wH s : Nat) : Int)) then 0 else s 8) → FW g zX6_costOf 0 0 (fun o σ' l' => o = .inl (some (iv (wCo s p q))) ∧ σ' = σ ∧ l' = l) 28 [some (.ref 92), some (iv p), some (iv q), some (iv v), some (iv i), u5, u6] [] σ l := by
    refine loopUp _ (fun k hk2 ih i v u5 u6 hi hv => ?_)
    subst hi
    refine g_iload4 dX6_costOf_28 ?_
    refine g_aload0 dX6_costOf_30 ?_
    refine f_getr (r := 93) rfl (by decide) rfl rfl fl_X6_7 dX6_costOf_31 ?_
    try rw [hs]
    refine g_iconst dX6_costOf_34 ?_
    refine f_iald rfl (by decide) ⟨by omega, by show _ < ((67 : Nat) : Int); omega⟩ dX6_costOf_35 ?_
    try rw [hs]
    refine g_icmp_ge ⟨by omega, by omega⟩ ⟨by omega, by omega⟩ (tgt := 102) dX6_costOf_36 rfl (fun h36 => ?_) (fun h36 => ?_)
    · refine g_iload3 dX6_costOf_102 ?_
      refine g_iretI rfl dX6_costOf_103 ?_
      exact Fw.ret (by rw [hv, show k = wH s from by omega]; rfl)
    · have hd1 := dg_rng (p / ((3 ^ k : Nat) : Int))
      rw [show p / ((3 ^ k : Nat) : Int) % 3 = dgt p k from rfl] at hd1
      have hd2 := dg_rng (q / ((3 ^ k : Nat) : Int))
      rw [show q / ((3 ^ k : Nat) : Int) % 3 = dgt q k from rfl] at hd2
      have hst : dC (s 6) (s 7) (k + 1) p q = dC (s 6) (s 7) k p q + pd (s 6) (s 7) (dgt p k) (dgt q k) := rfl
      refine g_aload0 dX6_costOf_39 ?_
      refine g_iload1 dX6_costOf_40 ?_
      refine g_iload4 dX6_costOf_41 ?_
      refine f_cV2w (cover_m ⟨by omega, by omega⟩ (by omega)) rfl (by decide) rfl oY_X6_coverOf oI_X6_coverOf lk_X6_90 rfl dX6_costOf_43 rfl (Or.inl rfl) ?_
      refine g_istore5 dX6_costOf_46 rfl (by decide) ?_
      refine g_aload0 dX6_costOf_48 ?_
      refine g_iload2 dX6_costOf_49 ?_
      refine g_iload4 dX6_costOf_50 ?_
      refine f_cV2w (cover_m ⟨by omega, by omega⟩ (by omega)) rfl (by decide) rfl oY_X6_coverOf oI_X6_coverOf lk_X6_90 rfl dX6_costOf_52 rfl (Or.inl rfl) ?_
      refine g_istore6 dX6_costOf_55 rfl (by decide) ?_
      refine g_iload5 dX6_costOf_57 ?_
      refine g_iload6 dX6_costOf_59 ?_
      refine g_icmp_eq ⟨by omega, by omega⟩ ⟨by omega, by omega⟩ (tgt := 96) dX6_costOf_61 rfl (fun h61 => ?_) (fun h61 => ?_)
      · refine g_iinc4 dX6_costOf_96 rfl (by decide) ?_
        refine g_goto (tgt := 28) dX6_costOf_99 rfl ?_
        first
          | exact ih (by omega) _ _ _ _ (by push_cast; omega) (by rw [hv, hst, h61, pd_0, Int.add_zero])
          | exact ih (by omega) _ _ _ _ (by push_cast; omega) (by rw [hv, hst, pdv_h h61 (by omega), Int.add_right_comm])
          | exact ih (by omega) _ _ _ _ (by push_cast; omega) (by rw [hv, hst, pdv_m h61 (by omega), Int.add_right_comm])
      · refine g_iload3 dX6_costOf_64 ?_
        refine g_iload5 dX6_costOf_65 ?_
        refine g_iconst dX6_costOf_67 ?_
        refine g_icmp_eq ⟨by omega, by omega⟩ ⟨by decide, by decide⟩ (tgt := 77) dX6_costOf_68 rfl (fun h68 => ?_) (fun h68 => ?_)
        · refine g_aload0 dX6_costOf_77 ?_
          refine f_getr (r := 93) rfl (by decide) rfl rfl fl_X6_7 dX6_costOf_78 ?_
          try rw [hs]
          refine g_bipush dX6_costOf_81 (by decide) ?_
          refine f_iald rfl (by decide) ⟨by omega, by show _ < ((67 : Nat) : Int); omega⟩ dX6_costOf_83 ?_
          try rw [hs]
          refine g_goto (tgt := 94) dX6_costOf_84 rfl ?_
          refine g_iadd dX6_costOf_94 ?_
          refine g_istore3 dX6_costOf_95 rfl (by decide) ?_
          refine g_iinc4 dX6_costOf_96 rfl (by decide) ?_
          refine g_goto (tgt := 28) dX6_costOf_99 rfl ?_
          first
            | exact ih (by omega) _ _ _ _ (by push_cast; omega) (by rw [hv, hst, h61, pd_0, Int.add_zero])
            | exact ih (by omega) _ _ _ _ (by push_cast; omega) (by rw [hv, hst, pdv_h h61 (by omega), Int.add_right_comm])
            | exact ih (by omega) _ _ _ _ (by push_cast; omega) (by rw [hv, hst, pdv_m h61 (by omega), Int.add_right_comm])
        · refine g_iload6 dX6_costOf_71 ?_
          refine g_iconst dX6_costOf_73 ?_
          refine g_icmp_ne ⟨by omega, by omega⟩ ⟨by decide, by decide⟩ (tgt := 87) dX6_costOf_74 rfl (fun h74 => ?_) (fun h74 => ?_)
          · refine g_aload0 dX6_costOf_87 ?_
            refine f_getr (r := 93) rfl (by decide) rfl rfl fl_X6_7 dX6_costOf_88 ?_
            try rw [hs]
            refine g_bipush dX6_costOf_91 (by decide) ?_
            refine f_iald rfl (by decide) ⟨by omega, by show _ < ((67 : Nat) : Int); omega⟩ dX6_costOf_93 ?_
            try rw [hs]
            refine g_iadd dX6_costOf_94 ?_
            refine g_istore3 dX6_costOf_95 rfl (by decide) ?_
            refine g_iinc4 dX6_costOf_96 rfl (by decide) ?_
            refine g_goto (tgt := 28) dX6_costOf_99 rfl ?_
            first
              | exact ih (by omega) _ _ _ _ (by push_cast; omega) (by rw [hv, hst, h61, pd_0, Int.add_zero])
              | exact ih (by omega) _ _ _ _ (by push_cast; omega) (by rw [hv, hst, pdv_h h61 (by omega), Int.add_right_comm])
              | exact ih (by omega) _ _ _ _ (by push_cast; omega) (by rw [hv, hst, pdv_m h61 (by omega), Int.add_right_comm])
          · refine g_aload0 dX6_costOf_77 ?_
            refine f_getr (r := 93) rfl (by decide) rfl rfl fl_X6_7 dX6_costOf_78 ?_
            try rw [hs]
            refine g_bipush dX6_costOf_81 (by decide) ?_
            refine f_iald rfl (by decide) ⟨by omega, by show _ < ((67 : Nat) : Int); omega⟩ dX6_costOf_83 ?_
            try rw [hs]
            refine g_goto (tgt := 94) dX6_costOf_84 rfl ?_
            refine g_iadd dX6_costOf_94 ?_
            refine g_istore3 dX6_costOf_95 rfl (by decide) ?_
            refine g_iinc4 dX6_costOf_96 rfl (by decide) ?_
            refine g_goto (tgt := 28) dX6_costOf_99 rfl ?_
            first
              | exact ih (by omega) _ _ _ _ (by push_cast; omega) (by rw [hv, hst, h61, pd_0, Int.add_zero])
              | exact ih (by omega) _ _ _ _ (by push_cast; omega) (by rw [hv, hst, pdv_h h61 (by omega), Int.add_right_comm])
              | exact ih (by omega) _ _ _ _ (by push_cast; omega) (by rw [hv, hst, pdv_m h61 (by omega), Int.add_right_comm])
  refine g_aload0 dX6_costOf_0 ?_
  refine g_iload1 dX6_costOf_1 ?_
  refine f_cV1w (isStrong_ok ho hs ⟨by omega, by omega⟩) rfl (by decide) rfl oY_X6_isStrong oI_X6_isStrong lk_X6_120 rfl dX6_costOf_2 rfl (Or.inl rfl) ?_
  refine g_aload0 dX6_costOf_5 ?_
  refine g_iload2 dX6_costOf_6 ?_
  refine f_cV1w (isStrong_ok ho hs ⟨by omega, by omega⟩) rfl (by decide) rfl oY_X6_isStrong oI_X6_isStrong lk_X6_120 rfl dX6_costOf_7 rfl (Or.inl rfl) ?_
  obtain ⟨x, hx, hx2⟩ : ∃ x : Int, bv (((3 ^ wH s : Nat) : Int) ≤ p) = iv x ∧ x = (if ((3 ^ wH s : Nat) : Int) ≤ p then 1 else 0) := ⟨_, rfl, rfl⟩
  obtain ⟨y, hy, hy2⟩ : ∃ y : Int, bv (((3 ^ wH s : Nat) : Int) ≤ q) = iv y ∧ y = (if ((3 ^ wH s : Nat) : Int) ≤ q then 1 else 0) := ⟨_, rfl, rfl⟩
  rw [hx, hy]
  have hx01 : 0 ≤ x ∧ x ≤ 1 := by rw [hx2]; split <;> omega
  have hy01 : 0 ≤ y ∧ y ≤ 1 := by rw [hy2]; split <;> omega
  have hxy : (x = y) ↔ (p < ((3 ^ wH s : Nat) : Int) ↔ q < ((3 ^ wH s : Nat) : Int)) := by
    rw [hx2, hy2]
    constructor
    · intro z; split at z <;> split at z <;> omega
    · intro z; split <;> split <;> omega
  refine g_icmp_ne ⟨by omega, by omega⟩ ⟨by omega, by omega⟩ (tgt := 17) dX6_costOf_10 rfl (fun h10 => ?_) (fun h10 => ?_)
  · refine g_aload0 dX6_costOf_17 ?_
    refine f_getr (r := 93) rfl (by decide) rfl rfl fl_X6_7 dX6_costOf_18 ?_
    try rw [hs]
    refine g_bipush dX6_costOf_21 (by decide) ?_
    refine f_iald rfl (by decide) ⟨by omega, by show _ < ((67 : Nat) : Int); omega⟩ dX6_costOf_23 ?_
    try rw [hs]
    refine g_istore3 dX6_costOf_24 rfl (by decide) ?_
    refine g_iconst dX6_costOf_25 ?_
    refine g_istore4 dX6_costOf_26 rfl (by decide) ?_
    first
      | exact loop 0 (Nat.zero_le _) _ _ _ _ rfl (by rw [if_pos (hxy.mp h10)]; rfl)
      | exact loop 0 (Nat.zero_le _) _ _ _ _ rfl (by rw [if_neg (fun z => h10 (hxy.mpr z))]; show s 8 = 0 + s 8; omega)
  · refine g_iconst dX6_costOf_13 ?_
    refine g_goto (tgt := 24) dX6_costOf_14 rfl ?_
    refine g_istore3 dX6_costOf_24 rfl (by decide) ?_
    refine g_iconst dX6_costOf_25 ?_
    refine g_istore4 dX6_costOf_26 rfl (by decide) ?_
    first
      | exact loop 0 (Nat.zero_le _) _ _ _ _ rfl (by rw [if_pos (hxy.mp h10)]; rfl)
      | exact loop 0 (Nat.zero_le _) _ _ _ _ rfl (by rw [if_neg (fun z => h10 (hxy.mpr z))]; show s 8 = 0 + s 8; omega)
theorem fingers_m {B : Int} {s : Int → Int} (ho : SOK B s) (hs : σ 93 = s) {p q : Int} (hp : 0 ≤ p ∧ p < 2 * ((3 ^ wH s : Nat) : Int)) (hq : 0 ≤ q ∧ q < 2 * ((3 ^ wH s : Nat) : Int)) : Fw g zX6_fingersOf [.ref 92, iv p, iv q] σ l (iv (dC 1 1 (wH s) p q)) := by
  have h7 := ho.h7
  have hI := ho.hI
  have hp3 := p3_le h7
  refine Fn.of [some (.ref 92), some (iv p), some (iv q), none, none] rfl (by decide) (Nat.le_of_ble_eq_true rfl) rfl ?_
  have loop : ∀ k : Nat, k ≤ wH s → ∀ (i v : Int), i = (k : Int) → v = dC 1 1 k p q → FW g zX6_fingersOf 0 0 (fun o σ' l' => o = .inl (some (iv (dC 1 1 (wH s) p q))) ∧ σ' = σ ∧ l' = l) 5 [some (.ref 92), some (iv p), some (iv q), some (iv v), some (iv i)] [] σ l := by
    refine loopUp _ (fun k hk2 ih i v hi hv => ?_)
    subst hi
    refine g_iload4 dX6_fingersOf_5 ?_
    refine g_aload0 dX6_fingersOf_7 ?_
    refine f_getr (r := 93) rfl (by decide) rfl rfl fl_X6_7 dX6_fingersOf_8 ?_
    try rw [hs]
    refine g_iconst dX6_fingersOf_11 ?_
    refine f_iald rfl (by decide) ⟨by omega, by show _ < ((67 : Nat) : Int); omega⟩ dX6_fingersOf_12 ?_
    try rw [hs]
    refine g_icmp_ge ⟨by omega, by omega⟩ ⟨by omega, by omega⟩ (tgt := 47) dX6_fingersOf_13 rfl (fun h13 => ?_) (fun h13 => ?_)
    · refine g_iload3 dX6_fingersOf_47 ?_
      refine g_iretI rfl dX6_fingersOf_48 ?_
      exact Fw.ret (by rw [hv, show k = wH s from by omega])
    · have hd1 := dg_rng (p / ((3 ^ k : Nat) : Int))
      rw [show p / ((3 ^ k : Nat) : Int) % 3 = dgt p k from rfl] at hd1
      have hd2 := dg_rng (q / ((3 ^ k : Nat) : Int))
      rw [show q / ((3 ^ k : Nat) : Int) % 3 = dgt q k from rfl] at hd2
      have hst : dC 1 1 (k + 1) p q = dC 1 1 k p q + pd 1 1 (dgt p k) (dgt q k) := rfl
      refine g_iload3 dX6_fingersOf_16 ?_
      refine g_aload0 dX6_fingersOf_17 ?_
      refine g_iload1 dX6_fingersOf_18 ?_
      refine g_iload4 dX6_fingersOf_19 ?_
      refine f_cV2w (cover_m ⟨by omega, by omega⟩ (by omega)) rfl (by decide) rfl oY_X6_coverOf oI_X6_coverOf lk_X6_90 rfl dX6_fingersOf_21 rfl (Or.inl rfl) ?_
      refine g_aload0 dX6_fingersOf_24 ?_
      refine g_iload2 dX6_fingersOf_25 ?_
      refine g_iload4 dX6_fingersOf_26 ?_
      refine f_cV2w (cover_m ⟨by omega, by omega⟩ (by omega)) rfl (by decide) rfl oY_X6_coverOf oI_X6_coverOf lk_X6_90 rfl dX6_fingersOf_28 rfl (Or.inl rfl) ?_
      refine g_icmp_ne ⟨by omega, by omega⟩ ⟨by omega, by omega⟩ (tgt := 38) dX6_fingersOf_31 rfl (fun h31 => ?_) (fun h31 => ?_)
      · refine g_iconst dX6_fingersOf_38 ?_
        refine g_iadd dX6_fingersOf_39 ?_
        refine g_istore3 dX6_fingersOf_40 rfl (by decide) ?_
        refine g_iinc4 dX6_fingersOf_41 rfl (by decide) ?_
        refine g_goto (tgt := 5) dX6_fingersOf_44 rfl ?_
        first
          | exact ih (by omega) _ _ (by push_cast; omega) (by rw [hv, hst]; unfold pd; rw [if_pos h31])
          | exact ih (by omega) _ _ (by push_cast; omega) (by rw [hv, hst]; unfold pd; rw [if_neg h31]; split <;> rfl)
      · refine g_iconst dX6_fingersOf_34 ?_
        refine g_goto (tgt := 39) dX6_fingersOf_35 rfl ?_
        refine g_iadd dX6_fingersOf_39 ?_
        refine g_istore3 dX6_fingersOf_40 rfl (by decide) ?_
        refine g_iinc4 dX6_fingersOf_41 rfl (by decide) ?_
        refine g_goto (tgt := 5) dX6_fingersOf_44 rfl ?_
        first
          | exact ih (by omega) _ _ (by push_cast; omega) (by rw [hv, hst]; unfold pd; rw [if_pos h31])
          | exact ih (by omega) _ _ (by push_cast; omega) (by rw [hv, hst]; unfold pd; rw [if_neg h31]; split <;> rfl)
  refine g_iconst dX6_fingersOf_0 ?_
  refine g_istore3 dX6_fingersOf_1 rfl (by decide) ?_
  refine g_iconst dX6_fingersOf_2 ?_
  refine g_istore4 dX6_fingersOf_3 rfl (by decide) ?_
  exact loop 0 (Nat.zero_le _) _ _ rfl rfl
theorem toneAt_m {s : Int → Int} (hs : σ 93 = s) {k : Nat} (hk : k < 40) : Fw g zX6_toneAt [.ref 92, iv (k : Int)] σ l (iv (wTu s k)) := by
  refine Fn.of [some (.ref 92), some (iv (k : Int))] rfl (by decide) (Nat.le_of_ble_eq_true rfl) rfl ?_
  refine g_aload0 dX6_toneAt_0 ?_
  refine f_getr (r := 93) rfl (by decide) rfl rfl fl_X6_7 dX6_toneAt_1 ?_
  try rw [hs]
  refine g_bipush dX6_toneAt_4 (by decide) ?_
  refine g_iload1 dX6_toneAt_6 ?_
  refine g_iadd dX6_toneAt_7 ?_
  refine f_iald rfl (by decide) ⟨by omega, by show _ < ((67 : Nat) : Int); omega⟩ dX6_toneAt_8 ?_
  try rw [hs]
  refine g_iretI rfl dX6_toneAt_9 ?_
  exact Fw.ret (by unfold wTu; rw [Int.toNat_natCast])
theorem isNoted_m {B : Int} {s : Int → Int} (ho : SOK B s) (hs : σ 93 = s) {k : Nat} (hk : k ≤ 40) : Fw g zX6_isNoted [.ref 92, iv (k : Int)] σ l (bv (k < wN s ∧ wTu s k ≠ -1)) := by
  have hn := ho.notes
  have hI := ho.nI
  refine Fn.of [some (.ref 92), some (iv (k : Int))] rfl (by decide) (Nat.le_of_ble_eq_true rfl) rfl ?_
  refine g_iload1 dX6_isNoted_0 ?_
  refine g_aload0 dX6_isNoted_1 ?_
  refine f_getr (r := 93) rfl (by decide) rfl rfl fl_X6_7 dX6_isNoted_2 ?_
  try rw [hs]
  refine g_bipush dX6_isNoted_5 (by decide) ?_
  refine f_iald rfl (by decide) ⟨by omega, by show _ < ((67 : Nat) : Int); omega⟩ dX6_isNoted_7 ?_
  try rw [hs]
  refine g_icmp_ge ⟨by omega, by omega⟩ ⟨by omega, by omega⟩ (tgt := 24) dX6_isNoted_8 rfl (fun h8 => ?_) (fun h8 => ?_)
  · refine g_iconst dX6_isNoted_24 ?_
    refine g_iretB (Or.inl rfl) rfl dX6_isNoted_25 ?_
    first
      | exact Fw.ret (by rw [if_neg (fun z => by omega)])
      | exact Fw.ret (by rw [if_neg (fun z => z.2 h17)])
  · refine g_aload0 dX6_isNoted_11 ?_
    refine g_iload1 dX6_isNoted_12 ?_
    refine f_cV1w (toneAt_m hs (by omega)) rfl (by decide) rfl oY_X6_toneAt oI_X6_toneAt lk_X6_143 rfl dX6_isNoted_13 rfl (Or.inl rfl) ?_
    have ht := ho.tune k (by omega) (by omega)
    refine g_iconst dX6_isNoted_16 ?_
    refine g_icmp_eq ⟨by omega, by omega⟩ ⟨by decide, by decide⟩ (tgt := 24) dX6_isNoted_17 rfl (fun h17 => ?_) (fun h17 => ?_)
    · refine g_iconst dX6_isNoted_24 ?_
      refine g_iretB (Or.inl rfl) rfl dX6_isNoted_25 ?_
      first
        | exact Fw.ret (by rw [if_neg (fun z => by omega)])
        | exact Fw.ret (by rw [if_neg (fun z => z.2 h17)])
    · refine g_iconst dX6_isNoted_20 ?_
      refine g_goto (tgt := 25) dX6_isNoted_21 rfl ?_
      refine g_iretB (Or.inr rfl) rfl dX6_isNoted_25 ?_
      exact Fw.ret (by rw [if_pos ⟨by omega, h17⟩])
theorem isTone_m {t : Int} (hx : R32 t) : Fw g zX6_isTone [.ref 92, iv t] σ l (bv (0 ≤ t ∧ t ≤ 24)) := by
  refine Fn.of [some (.ref 92), some (iv t)] rfl (by decide) (Nat.le_of_ble_eq_true rfl) rfl ?_
  refine g_iload1 dX6_isTone_0 ?_
  refine g_i2l hx dX6_isTone_1 ?_
  refine g_lconst0 dX6_isTone_2 ?_
  refine g_ldc2 (v := Int64.ofInt (24)) kl_X6_163 dX6_isTone_3 ?_
  refine f_cS3w (isIn_ok ⟨by omega, by omega⟩ ⟨by decide, by decide⟩ ⟨by decide, by decide⟩) oY_X6_isIn oT_X6_isIn lk_X6_83 rfl dX6_isTone_6 rfl (Or.inl rfl) ?_
  refine g_iretP rfl dX6_isTone_9 ?_
  exact Fw.ret rfl
theorem least_m {a b d : Int} (ha : R32 a) (hb : R32 b) (hd : R32 d) : Fw g zX6_least [iv a, iv b, iv d] σ l (iv (min a (min b d))) := by
  refine Fn.of [some (iv a), some (iv b), some (iv d)] rfl (by decide) (Nat.le_of_ble_eq_true rfl) rfl ?_
  refine g_iload0 dX6_least_0 ?_
  refine g_iload1 dX6_least_1 ?_
  refine g_iload2 dX6_least_2 ?_
  refine g_mmin hb hd ma_X6_146 ⟨by decide, Nat.le_of_ble_eq_true rfl⟩ dX6_least_3 ?_
  refine g_mmin ha ⟨by omega, by omega⟩ ma_X6_146 ⟨by decide, Nat.le_of_ble_eq_true rfl⟩ dX6_least_6 ?_
  refine g_iretI rfl dX6_least_9 ?_
  exact Fw.ret rfl
theorem hgB_iff {s : Int → Int} {b : Int} {n : Nat} : hgB s b (n + 1) = true ↔ hgB s b n = true ∧ (wTu s n = -1 ∨ 0 ≤ wTu s n + b ∧ wTu s n + b < 25) := by
  rw [hgB, Bool.and_eq_true, Bool.or_eq_true, decide_eq_true_eq, decide_eq_true_eq]
theorem canShift_m {B : Int} {s : Int → Int} (ho : SOK B s) (hs : σ 93 = s) {b : Int} (hb : -12 ≤ b ∧ b ≤ 12) : Fw g zX6_canShift [.ref 92, iv b] σ l (bv (hgB s b (wN s) = true)) := by
  have hn := ho.n40
  have hI := ho.nI
  refine Fn.of [some (.ref 92), some (iv b), none, none] rfl (by decide) (Nat.le_of_ble_eq_true rfl) rfl ?_
  have loop : ∀ k : Nat, k ≤ wN s → ∀ (i v : Int), i = (k : Int) → v = (if hgB s b k = true then 1 else 0) → FW g zX6_canShift 0 0 (fun o σ' l' => o = .inl (some (bv (hgB s b (wN s) = true))) ∧ σ' = σ ∧ l' = l) 4 [some (.ref 92), some (iv b), some (iv v), some (iv i)] [] σ l := by
    refine loopUp _ (fun k hk2 ih i v hi hv => ?_)
    subst hi
    have hv01 : 0 ≤ v ∧ v ≤ 1 := by rw [hv]; split <;> omega
    have hvn : v ≠ 0 ↔ hgB s b k = true := by
      rw [hv]
      constructor
      · intro z; split at z; assumption; omega
      · intro z; rw [if_pos z]; decide
    have hgi := hgB_iff (s := s) (b := b) (n := k)
    refine g_iload3 dX6_canShift_4 ?_
    refine g_aload0 dX6_canShift_5 ?_
    refine f_getr (r := 93) rfl (by decide) rfl rfl fl_X6_7 dX6_canShift_6 ?_
    try rw [hs]
    refine g_bipush dX6_canShift_9 (by decide) ?_
    refine f_iald rfl (by decide) ⟨by omega, by show _ < ((67 : Nat) : Int); omega⟩ dX6_canShift_11 ?_
    try rw [hs]
    refine g_icmp_ge ⟨by omega, by omega⟩ ⟨by omega, by omega⟩ (tgt := 53) dX6_canShift_12 rfl (fun h12 => ?_) (fun h12 => ?_)
    · refine g_iload2 dX6_canShift_53 ?_
      refine g_iretB (by omega) rfl dX6_canShift_54 ?_
      have e9 : k = wN s := by omega
      subst e9
      by_cases hz : hgB s b (wN s) = true
      · exact fn_ret ⟨by rw [bvT hz, hv, if_pos hz], rfl, rfl⟩
      · exact fn_ret ⟨by rw [bvF hz, hv, if_neg hz], rfl, rfl⟩
    · refine g_iload2 dX6_canShift_15 ?_
      refine g_if_eq ⟨by omega, by omega⟩ (tgt := 45) dX6_canShift_16 rfl (fun h16 => ?_) (fun h16 => ?_)
      · refine g_iconst dX6_canShift_45 ?_
        refine g_istore2 dX6_canShift_46 rfl (by decide) ?_
        refine g_iinc3 dX6_canShift_47 rfl (by decide) ?_
        refine g_goto (tgt := 4) dX6_canShift_50 rfl ?_
        first
          | exact ih (by omega) _ _ (by push_cast; omega) (by rw [if_neg (fun z => (hvn.mpr (hgi.mp z).1) h16)])
          | exact ih (by omega) _ _ (by push_cast; omega) (by rw [if_pos (hgi.mpr ⟨hvn.mp h16, Or.inl (Classical.byContradiction fun z => h24 ⟨by omega, z⟩)⟩)])
          | exact ih (by omega) _ _ (by push_cast; omega) (by rw [if_pos (hgi.mpr ⟨hvn.mp h16, Or.inr (by omega)⟩)])
          | exact ih (by omega) _ _ (by push_cast; omega) (by rw [if_neg (fun z => by have := (hgi.mp z).2; omega)])
      · refine g_aload0 dX6_canShift_19 ?_
        refine g_iload3 dX6_canShift_20 ?_
        refine f_cV1w (isNoted_m ho hs (by omega)) rfl (by decide) rfl oY_X6_isNoted oI_X6_isNoted lk_X6_152 rfl dX6_canShift_21 rfl (Or.inl rfl) ?_
        refine g_ifeqB (tgt := 41) dX6_canShift_24 rfl (fun h24 => ?_) (fun h24 => ?_)
        · refine g_iconst dX6_canShift_41 ?_
          refine g_goto (tgt := 46) dX6_canShift_42 rfl ?_
          refine g_istore2 dX6_canShift_46 rfl (by decide) ?_
          refine g_iinc3 dX6_canShift_47 rfl (by decide) ?_
          refine g_goto (tgt := 4) dX6_canShift_50 rfl ?_
          first
            | exact ih (by omega) _ _ (by push_cast; omega) (by rw [if_neg (fun z => (hvn.mpr (hgi.mp z).1) h16)])
            | exact ih (by omega) _ _ (by push_cast; omega) (by rw [if_pos (hgi.mpr ⟨hvn.mp h16, Or.inl (Classical.byContradiction fun z => h24 ⟨by omega, z⟩)⟩)])
            | exact ih (by omega) _ _ (by push_cast; omega) (by rw [if_pos (hgi.mpr ⟨hvn.mp h16, Or.inr (by omega)⟩)])
            | exact ih (by omega) _ _ (by push_cast; omega) (by rw [if_neg (fun z => by have := (hgi.mp z).2; omega)])
        · refine g_aload0 dX6_canShift_27 ?_
          refine g_aload0 dX6_canShift_28 ?_
          refine g_iload3 dX6_canShift_29 ?_
          refine f_cV1w (toneAt_m hs (by omega)) rfl (by decide) rfl oY_X6_toneAt oI_X6_toneAt lk_X6_143 rfl dX6_canShift_30 rfl (Or.inl rfl) ?_
          have ht := ho.tune k (by omega) (by omega)
          refine g_iload1 dX6_canShift_33 ?_
          refine g_iadd dX6_canShift_34 ?_
          refine f_cV1w (isTone_m ⟨by omega, by omega⟩) rfl (by decide) rfl oY_X6_isTone oI_X6_isTone lk_X6_165 rfl dX6_canShift_35 rfl (Or.inl rfl) ?_
          refine g_ifeqB (tgt := 45) dX6_canShift_38 rfl (fun h38 => ?_) (fun h38 => ?_)
          · refine g_iconst dX6_canShift_45 ?_
            refine g_istore2 dX6_canShift_46 rfl (by decide) ?_
            refine g_iinc3 dX6_canShift_47 rfl (by decide) ?_
            refine g_goto (tgt := 4) dX6_canShift_50 rfl ?_
            first
              | exact ih (by omega) _ _ (by push_cast; omega) (by rw [if_neg (fun z => (hvn.mpr (hgi.mp z).1) h16)])
              | exact ih (by omega) _ _ (by push_cast; omega) (by rw [if_pos (hgi.mpr ⟨hvn.mp h16, Or.inl (Classical.byContradiction fun z => h24 ⟨by omega, z⟩)⟩)])
              | exact ih (by omega) _ _ (by push_cast; omega) (by rw [if_pos (hgi.mpr ⟨hvn.mp h16, Or.inr (by omega)⟩)])
              | exact ih (by omega) _ _ (by push_cast; omega) (by rw [if_neg (fun z => by have := (hgi.mp z).2; omega)])
          · refine g_iconst dX6_canShift_41 ?_
            refine g_goto (tgt := 46) dX6_canShift_42 rfl ?_
            refine g_istore2 dX6_canShift_46 rfl (by decide) ?_
            refine g_iinc3 dX6_canShift_47 rfl (by decide) ?_
            refine g_goto (tgt := 4) dX6_canShift_50 rfl ?_
            first
              | exact ih (by omega) _ _ (by push_cast; omega) (by rw [if_neg (fun z => (hvn.mpr (hgi.mp z).1) h16)])
              | exact ih (by omega) _ _ (by push_cast; omega) (by rw [if_pos (hgi.mpr ⟨hvn.mp h16, Or.inl (Classical.byContradiction fun z => h24 ⟨by omega, z⟩)⟩)])
              | exact ih (by omega) _ _ (by push_cast; omega) (by rw [if_pos (hgi.mpr ⟨hvn.mp h16, Or.inr (by omega)⟩)])
              | exact ih (by omega) _ _ (by push_cast; omega) (by rw [if_neg (fun z => by have := (hgi.mp z).2; omega)])
  refine g_iconst dX6_canShift_0 ?_
  refine g_istore2 dX6_canShift_1 rfl (by decide) ?_
  refine g_iconst dX6_canShift_2 ?_
  refine g_istore3 dX6_canShift_3 rfl (by decide) ?_
  exact loop 0 (Nat.zero_le _) _ _ rfl (by rw [if_pos (show hgB s b 0 = true from rfl)])
theorem wEt_in {s : Int → Int} {t : Int} (ht : 0 ≤ t ∧ t < 25) : wEt s t = EL (wTe s) t (2 * 3 ^ wH s) := by
  show EP (wTe s) (2 * 3 ^ wH s) t = _
  unfold EP
  rw [if_pos ht]
theorem EL_get {f : Int → Int} {t : Int} {n q : Nat} (hq : q < n) (hf : f q = t) : (EL f t n)[(cnI f t q).toNat]? = some q := by
  induction n with
  | zero => omega
  | succ n ih =>
    rw [EL_succ]
    have hl := EL_len f t n
    have hc := cnI_rng f t q
    by_cases e : q = n
    · subst e
      rw [if_pos hf, List.getElem?_append_right (by omega), show (cnI f t q).toNat - (EL f t q).length = 0 from by omega]
      rfl
    · have h1 := ih (by omega)
      rw [List.getElem?_append_left (List.getElem?_eq_some_iff.mp h1).1]
      exact h1
theorem easyMany_m {B : Int} {s : Int → Int} (ho : SOK B s) (hs : σ 93 = s) (hL : LdP σ s) {t : Int} (ht : 0 ≤ t ∧ t < 25) : Fw g zX6_easyMany [.ref 92, iv t] σ l (iv ((wEt s t).length : Int)) := by
  have hp3 := p3_le ho.h7
  have hp0 := p3_pos (wH s)
  have hNe : ((2 * 3 ^ wH s : Nat) : Int) = 2 * ((3 ^ wH s : Nat) : Int) := by push_cast; rfl
  refine Fn.of [some (.ref 92), some (iv t), none, none, none] rfl (by decide) (Nat.le_of_ble_eq_true rfl) rfl ?_
  have loop : ∀ k : Nat, k ≤ 2 * 3 ^ wH s → ∀ (i v : Int), i = (k : Int) → v = cnI (wTe s) t k → FW g zX6_easyMany 0 0 (fun o σ' l' => o = .inl (some (iv ((wEt s t).length : Int))) ∧ σ' = σ ∧ l' = l) 10 [some (.ref 92), some (iv t), some (iv (2 * ((3 ^ wH s : Nat) : Int))), some (iv v), some (iv i)] [] σ l := by
    refine loopUp _ (fun k hk2 ih i v hi hv => ?_)
    subst hi
    refine g_iload4 dX6_easyMany_10 ?_
    refine g_iload2 dX6_easyMany_12 ?_
    refine g_icmp_ge ⟨by omega, by omega⟩ ⟨by omega, by omega⟩ (tgt := 40) dX6_easyMany_13 rfl (fun h13 => ?_) (fun h13 => ?_)
    · refine g_iload3 dX6_easyMany_40 ?_
      refine g_iretI rfl dX6_easyMany_41 ?_
      exact Fw.ret (by rw [hv, show k = 2 * 3 ^ wH s from by omega, wEt_in ht, EL_len])
    · refine g_iload3 dX6_easyMany_16 ?_
      refine g_aload0 dX6_easyMany_17 ?_
      refine g_iload4 dX6_easyMany_18 ?_
      refine g_iload1 dX6_easyMany_20 ?_
      refine f_cV2w (isEasyOf_m ho hs hL ⟨by omega, by omega⟩ ⟨by omega, by omega⟩) rfl (by decide) rfl oY_X6_isEasyOf oI_X6_isEasyOf lk_X6_180 rfl dX6_easyMany_21 rfl (Or.inl rfl) ?_
      refine g_ifeqB (tgt := 31) dX6_easyMany_24 rfl (fun h24 => ?_) (fun h24 => ?_)
      · refine g_iconst dX6_easyMany_31 ?_
        refine g_iadd dX6_easyMany_32 ?_
        refine g_istore3 dX6_easyMany_33 rfl (by decide) ?_
        refine g_iinc4 dX6_easyMany_34 rfl (by decide) ?_
        refine g_goto (tgt := 10) dX6_easyMany_37 rfl ?_
        first
          | exact ih (by omega) _ _ (by push_cast; omega) (by rw [hv, cnI, if_pos h24])
          | exact ih (by omega) _ _ (by push_cast; omega) (by rw [hv, cnI, if_neg h24])
      · refine g_iconst dX6_easyMany_27 ?_
        refine g_goto (tgt := 32) dX6_easyMany_28 rfl ?_
        refine g_iadd dX6_easyMany_32 ?_
        refine g_istore3 dX6_easyMany_33 rfl (by decide) ?_
        refine g_iinc4 dX6_easyMany_34 rfl (by decide) ?_
        refine g_goto (tgt := 10) dX6_easyMany_37 rfl ?_
        first
          | exact ih (by omega) _ _ (by push_cast; omega) (by rw [hv, cnI, if_pos h24])
          | exact ih (by omega) _ _ (by push_cast; omega) (by rw [hv, cnI, if_neg h24])
  refine g_aload0 dX6_easyMany_0 ?_
  refine f_cV0w (many_ok ho hs) rfl (by decide) rfl oY_X6_many oI_X6_many lk_X6_80 rfl dX6_easyMany_1 rfl (Or.inl rfl) ?_
  refine g_istore2 dX6_easyMany_4 rfl (by decide) ?_
  refine g_iconst dX6_easyMany_5 ?_
  refine g_istore3 dX6_easyMany_6 rfl (by decide) ?_
  refine g_iconst dX6_easyMany_7 ?_
  refine g_istore4 dX6_easyMany_8 rfl (by decide) ?_
  exact loop 0 (Nat.zero_le _) _ _ rfl rfl
theorem easyAt_m {B : Int} {s : Int → Int} (ho : SOK B s) (hs : σ 93 = s) (hL : LdP σ s) {t : Int} (ht : 0 ≤ t ∧ t < 25) {x : Int} (hx : R32 x) : Fw g zX6_easyAt [.ref 92, iv t, iv x] σ l (iv (if 0 ≤ x ∧ x < ((wEt s t).length : Int) then ((wEt s t).getD x.toNat 0 : Nat) else -1)) := by
  have hp3 := p3_le ho.h7
  have hp0 := p3_pos (wH s)
  have hNe : ((2 * 3 ^ wH s : Nat) : Int) = 2 * ((3 ^ wH s : Nat) : Int) := by push_cast; rfl
  have hlen := EL_len (wTe s) t (2 * 3 ^ wH s)
  rw [← wEt_in ht] at hlen
  have hcr := cnI_rng (wTe s) t (2 * 3 ^ wH s)
  refine Fn.of [some (.ref 92), some (iv t), some (iv x), none, none, none] rfl (by decide) (Nat.le_of_ble_eq_true rfl) rfl ?_
  have loop : ∀ k : Nat, k ≤ 2 * 3 ^ wH s → ∀ (i v : Int), i = (k : Int) → v = x - cnI (wTe s) t k → (0 ≤ x → 0 ≤ v) → (x < 0 → k = 0) → FW g zX6_easyAt 0 0 (fun o σ' l' => o = .inl (some (iv (if 0 ≤ x ∧ x < ((wEt s t).length : Int) then ((wEt s t).getD x.toNat 0 : Nat) else -1))) ∧ σ' = σ ∧ l' = l) 11 [some (.ref 92), some (iv t), some (iv x), some (iv (2 * ((3 ^ wH s : Nat) : Int))), some (iv v), some (iv i)] [] σ l := by
    refine loopUp _ (fun k hk2 ih i v hi hv hv0 hx0 => ?_)
    subst hi
    have hck := cnI_rng (wTe s) t k
    have hvR : R32 v := by
      by_cases cx : x < 0
      · have e0 := hx0 cx
        subst e0
        have e1 : v = x - 0 := hv
        exact ⟨by omega, by omega⟩
      · exact ⟨by omega, by omega⟩
    refine g_iload5 dX6_easyAt_11 ?_
    refine g_iload3 dX6_easyAt_13 ?_
    refine g_icmp_ge ⟨by omega, by omega⟩ ⟨by omega, by omega⟩ (tgt := 52) dX6_easyAt_14 rfl (fun h14 => ?_) (fun h14 => ?_)
    · refine g_iconst dX6_easyAt_52 ?_
      refine g_iretI rfl dX6_easyAt_53 ?_
      first
        | exact Fw.ret (by rw [if_neg (fun z => by omega)])
        | (have e9 : k = 2 * 3 ^ wH s := by omega
           subst e9
           exact Fw.ret (by rw [if_neg (fun z => by omega)]))
    · refine g_iload4 dX6_easyAt_17 ?_
      refine g_if_lt hvR (tgt := 52) dX6_easyAt_19 rfl (fun h19 => ?_) (fun h19 => ?_)
      · refine g_iconst dX6_easyAt_52 ?_
        refine g_iretI rfl dX6_easyAt_53 ?_
        first
          | exact Fw.ret (by rw [if_neg (fun z => by omega)])
          | (have e9 : k = 2 * 3 ^ wH s := by omega
             subst e9
             exact Fw.ret (by rw [if_neg (fun z => by omega)]))
      · refine g_aload0 dX6_easyAt_22 ?_
        refine g_iload5 dX6_easyAt_23 ?_
        refine g_iload1 dX6_easyAt_25 ?_
        refine f_cV2w (isEasyOf_m ho hs hL ⟨by omega, by omega⟩ ⟨by omega, by omega⟩) rfl (by decide) rfl oY_X6_isEasyOf oI_X6_isEasyOf lk_X6_180 rfl dX6_easyAt_26 rfl (Or.inl rfl) ?_
        refine g_ifneB (tgt := 35) dX6_easyAt_29 rfl (fun h29 => ?_) (fun h29 => ?_)
        · refine g_iload4 dX6_easyAt_35 ?_
          refine g_if_ne hvR (tgt := 43) dX6_easyAt_37 rfl (fun h37 => ?_) (fun h37 => ?_)
          · refine g_iinc4 dX6_easyAt_43 rfl (by decide) ?_
            refine g_iinc5 dX6_easyAt_46 rfl (by decide) ?_
            refine g_goto (tgt := 11) dX6_easyAt_49 rfl ?_
            first
              | exact ih (by omega) _ _ (by push_cast; omega) (by rw [hv, cnI, if_neg h29]; omega) (fun z => hv0 z) (fun z => by omega)
              | exact ih (by omega) _ _ (by push_cast; omega) (by rw [cnI, if_pos h29]; omega) (fun z => by omega) (fun z => by omega)
          · refine g_iload5 dX6_easyAt_40 ?_
            refine g_iretI rfl dX6_easyAt_42 ?_
            have hg := EL_get (f := wTe s) (t := t) (n := 2 * 3 ^ wH s) (q := k) (by omega) h29
            rw [← wEt_in ht, show (cnI (wTe s) t k).toNat = x.toNat from by omega] at hg
            have hlt := (List.getElem?_eq_some_iff.mp hg).1
            exact Fw.ret (by rw [if_pos ⟨by omega, by omega⟩, List.getD_eq_getElem?_getD, hg]; rfl)
        · refine g_goto (tgt := 46) dX6_easyAt_32 rfl ?_
          refine g_iinc5 dX6_easyAt_46 rfl (by decide) ?_
          refine g_goto (tgt := 11) dX6_easyAt_49 rfl ?_
          first
            | exact ih (by omega) _ _ (by push_cast; omega) (by rw [hv, cnI, if_neg h29]; omega) (fun z => hv0 z) (fun z => by omega)
            | exact ih (by omega) _ _ (by push_cast; omega) (by rw [cnI, if_pos h29]; omega) (fun z => by omega) (fun z => by omega)
  refine g_aload0 dX6_easyAt_0 ?_
  refine f_cV0w (many_ok ho hs) rfl (by decide) rfl oY_X6_many oI_X6_many lk_X6_80 rfl dX6_easyAt_1 rfl (Or.inl rfl) ?_
  refine g_istore3 dX6_easyAt_4 rfl (by decide) ?_
  refine g_iload2 dX6_easyAt_5 ?_
  refine g_istore4 dX6_easyAt_6 rfl (by decide) ?_
  refine g_iconst dX6_easyAt_8 ?_
  refine g_istore5 dX6_easyAt_9 rfl (by decide) ?_
  exact loop 0 (Nat.zero_le _) _ _ rfl (show x = x - 0 by omega) (fun z => z) (fun _ => rfl)
end C68
