/-! The model: repeat, higher -/
section C81
variable {g : gT} {σ : sT} {l : Nat → Nat}
theorem rp_row {s f : Int → Int} {a b m N : Int} (hN : N = s 9) (hm : m = b - a + 1) (h0 : 0 ≤ a) (hab : a ≤ b) (hb : b < N) (hfe : ∀ j, f j = s (j - m)) : Rw (su (rfS (27 + b + 1) (27 + b + 1 + m) f (rfS (27 + b + 1 + m) (27 + N + m) f s)) 9 (N + m)) (rpS s a b) := by
  intro j j0 j1
  unfold su rpS rfS
  by_cases e9 : j = 9
  · simp only [if_pos e9]
    omega
  · by_cases er : 27 + b < j ∧ j < 27 + s 9 + (b - a + 1)
    · by_cases e1 : 27 + b + 1 ≤ j ∧ j < 27 + b + 1 + m
      · simp only [if_neg e9, if_pos er, if_pos e1, hfe]
        rw [hm]
      · simp only [if_neg e9, if_pos er, if_neg e1, if_pos (show 27 + b + 1 + m ≤ j ∧ j < 27 + N + m by omega), hfe]
        rw [hm]
    · simp only [if_neg e9, if_neg er, if_neg (show ¬ (27 + b + 1 ≤ j ∧ j < 27 + b + 1 + m) by omega), if_neg (show ¬ (27 + b + 1 + m ≤ j ∧ j < 27 + N + m) by omega)]
theorem repeat_q {B : Int} {s : Int → Int} (ho : SOK B s) (hs : σ 93 = s) {n : Nat} (hn : σ 92 5 = (n : Int)) (h8 : n ≤ 8) {a b : Int} (ha : 0 ≤ a) (hab : a ≤ b) (hb : b < s 9) (hf : s 9 + (b - a + 1) ≤ 40) : Ms g zX6_repeat [.ref 92, iv a, iv b] σ l (iv (s 9 + (b - a + 1))) (rpS s a b) (nP n) (pP n s (pr σ)) := by
  have hs0 : up σ 92 6 0 93 = s := (up_n (by decide)).trans hs
  have hM0 : Md σ (up σ 92 6 0) := md_th (Md.refl σ)
  have he0 : up σ 92 6 0 92 6 = 0 := up_eq
  have hp3 := p3_le ho.h7
  have hp0 := p3_pos (wH s)
  have hn40 := ho.n40
  have hnI := ho.nI
  have hH7 := ho.h7
  have hHI := ho.hI
  have hb4 := ho.halves
  have hb5 := ho.crosses
  have hnr := ho.notes
  have i1 := isNote_m (g := g) (l := l) ho hs (p := a) (by omega)
  rw [bvT (by omega)] at i1
  have i2 := isNote_m (g := g) (l := l) ho hs (p := b) (by omega)
  rw [bvT (by omega)] at i2
  obtain ⟨m, hm⟩ : ∃ m : Int, m = b - a + 1 := ⟨_, rfl⟩
  obtain ⟨f, hf0⟩ : ∃ f : Int → Int, f = fun j => s (j - m) := ⟨_, rfl⟩
  have hfe : ∀ j, f j = s (j - m) := fun j => by rw [hf0]
  obtain ⟨N, hN⟩ : ∃ N : Int, N = s 9 := ⟨_, rfl⟩
  rw [← hN, ← hm]
  rw [← hN] at hb hf
  rw [← hm] at hf
  refine Fn.of [some (.ref 92), some (iv a), some (iv b), none, none] rfl (by decide) (Nat.le_of_ble_eq_true rfl) rfl ?_
  refine g_aload0 dX6_repeat_0 ?_
  refine g_aload0 dX6_repeat_1 ?_
  refine g_iload1 dX6_repeat_2 ?_
  refine f_cV1w (i1) rfl (by decide) rfl oY_X6_isNote oI_X6_isNote lk_X6_327 rfl dX6_repeat_3 rfl (Or.inl rfl) ?_
  refine g_if_eq ⟨by decide, by decide⟩ (tgt := 21) dX6_repeat_6 rfl (fun h6 => absurd h6 (by decide)) (fun h6 => ?_)
  refine g_aload0 dX6_repeat_9 ?_
  refine g_iload2 dX6_repeat_10 ?_
  refine f_cV1w (i2) rfl (by decide) rfl oY_X6_isNote oI_X6_isNote lk_X6_327 rfl dX6_repeat_11 rfl (Or.inl rfl) ?_
  refine g_if_eq ⟨by decide, by decide⟩ (tgt := 21) dX6_repeat_14 rfl (fun h14 => absurd h14 (by decide)) (fun h14 => ?_)
  refine g_iconst dX6_repeat_17 ?_
  refine g_goto (tgt := 22) dX6_repeat_18 rfl ?_
  refine g_iload1 dX6_repeat_22 ?_
  refine g_iload2 dX6_repeat_23 ?_
  refine g_icmp_gt ⟨by omega, by omega⟩ ⟨by omega, by omega⟩ (tgt := 31) dX6_repeat_24 rfl (fun h24 => absurd h24 (by omega)) (fun h24 => ?_)
  refine g_iconst dX6_repeat_27 ?_
  refine g_goto (tgt := 32) dX6_repeat_28 rfl ?_
  refine f_cV2x (passes_11) rfl (by decide) rfl oY_X6_passes oI_X6_passes lk_X6_285 rfl dX6_repeat_32 rfl (Or.inl rfl) ?_
  refine g_if_ne ⟨by decide, by decide⟩ (tgt := 40) dX6_repeat_35 rfl (fun h35 => ?_) (fun h35 => absurd h35 (by decide))
  refine g_iload2 dX6_repeat_40 ?_
  refine g_iload1 dX6_repeat_41 ?_
  refine g_isub dX6_repeat_42 ?_
  refine g_iconst dX6_repeat_43 ?_
  refine g_iadd dX6_repeat_44 ?_
  rw [← hm]
  refine g_istore3 dX6_repeat_45 rfl (by decide) ?_
  refine g_aload0 dX6_repeat_46 ?_
  refine f_getr (r := 93) rfl (by decide) rfl rfl fl_X6_7 dX6_repeat_47 ?_
  refine g_bipush dX6_repeat_50 (by decide) ?_
  refine f_iald rfl (by decide) ⟨by omega, by show _ < ((67 : Nat) : Int); omega⟩ dX6_repeat_52 ?_
  rw [hs0, ← hN]
  refine g_iload3 dX6_repeat_53 ?_
  refine g_iadd dX6_repeat_54 ?_
  refine g_bipush dX6_repeat_55 (by decide) ?_
  refine g_icmp_le ⟨by omega, by omega⟩ ⟨by omega, by omega⟩ (tgt := 63) dX6_repeat_57 rfl (fun h57 => ?_) (fun h57 => absurd h57 (by omega))
  refine g_aload0 dX6_repeat_63 ?_
  refine f_cV0m (keepsP (B := B) hM0 hs hn h8) rfl (by decide) rfl oY_X6_keeps oI_X6_keeps lk_X6_364 rfl dX6_repeat_64 (by omega) (by omega) rfl (Or.inl rfl) (fun σ64 l64 h64 => ?_)
  have elk := h64.1
  subst elk
  have hsk := h64.2.1
  have hSk := h64.2.2.1
  have hek : σ64 92 6 = 0 := h64.2.2.2.trans he0
  refine g_aload0 dX6_repeat_67 ?_
  refine f_getr (r := 93) rfl (by decide) rfl rfl fl_X6_7 dX6_repeat_68 ?_
  refine g_bipush dX6_repeat_71 (by decide) ?_
  refine f_iald rfl (by decide) ⟨by omega, by show _ < ((67 : Nat) : Int); omega⟩ dX6_repeat_73 ?_
  rw [hsk, ← hN]
  refine g_iconst dX6_repeat_74 ?_
  refine g_isub dX6_repeat_75 ?_
  refine g_istore4 dX6_repeat_76 rfl (by decide) ?_
  have loop2 : ∀ q : Nat, q ≤ m.toNat → ∀ (i : Int), i = (q : Int) → FW g zX6_repeat 0 0 (fun o τ l' => o = .inl (some (iv (N + m))) ∧ l' = l64 ∧ MS σ τ (rpS s a b) (nP n) (pP n s (pr σ)) ∧ τ 92 6 = 0) 115 [some (.ref 92), some (iv a), some (iv b), some (iv m), some (iv i)] [] (rgS (rgS σ64 (27 + b + 1 + m) (27 + N + m) f) (27 + b + 1) (27 + b + 1 + (q : Int)) f) l64 := by
    refine loopUp _ (fun q hq2 ih i hi => ?_)
    subst hi
    have r9 : (rgS (rgS σ64 (27 + b + 1 + m) (27 + N + m) f) (27 + b + 1) (27 + b + 1 + (q : Int)) f) 93 9 = N := by rw [rg_out (fun z => by omega), rg_out (fun z => by omega), hsk]; exact hN.symm
    have rq : (q : Int) < m → (rgS (rgS σ64 (27 + b + 1 + m) (27 + N + m) f) (27 + b + 1) (27 + b + 1 + (q : Int)) f) 93 (27 + a + (q : Int)) = s (27 + a + (q : Int)) := fun hq => by rw [rg_out (fun z => by omega), rg_out (fun z => by omega), hsk]
    refine g_iload4 dX6_repeat_115 ?_
    refine g_iload3 dX6_repeat_117 ?_
    refine g_icmp_ge ⟨by omega, by omega⟩ ⟨by omega, by omega⟩ (tgt := 153) dX6_repeat_118 rfl (fun h118 => ?_) (fun h118 => ?_)
    · have eq9 : (q : Int) = m := by omega
      rw [eq9] at r9 ⊢
      refine g_aload0 dX6_repeat_153 ?_
      refine f_getr (r := 93) rfl (by decide) rfl rfl fl_X6_7 dX6_repeat_154 ?_
      refine g_bipush dX6_repeat_157 (by decide) ?_
      refine g_dup2 rfl rfl dX6_repeat_159 ?_
      refine f_iald rfl (by decide) ⟨by omega, by show _ < ((67 : Nat) : Int); omega⟩ dX6_repeat_160 ?_
      rw [r9]
      refine g_iload3 dX6_repeat_161 ?_
      refine g_iadd dX6_repeat_162 ?_
      refine f_iast rfl (by decide) ⟨by omega, by show _ < ((67 : Nat) : Int); omega⟩ dX6_repeat_163 ?_
      refine g_aload0 dX6_repeat_164 ?_
      refine f_getr (r := 93) rfl (by decide) rfl rfl fl_X6_7 dX6_repeat_165 ?_
      refine g_bipush dX6_repeat_168 (by decide) ?_
      refine f_iald rfl (by decide) ⟨by omega, by show _ < ((67 : Nat) : Int); omega⟩ dX6_repeat_170 ?_
      rw [up_eq]
      refine g_iretI rfl dX6_repeat_171 ?_
      exact Ms.ret rfl ((((hSk.rg _ _ f).rg _ _ f).set 9 (N + m)).rw (rp_row hN hm ha hab hb hfe)) (by rw [up_n (by decide), rg_n (by decide), rg_n (by decide)]; exact hek)
    · refine g_aload0 dX6_repeat_121 ?_
      refine f_getr (r := 93) rfl (by decide) rfl rfl fl_X6_7 dX6_repeat_122 ?_
      refine g_bipush dX6_repeat_125 (by decide) ?_
      refine g_iload2 dX6_repeat_127 ?_
      refine g_iadd dX6_repeat_128 ?_
      refine g_iconst dX6_repeat_129 ?_
      refine g_iadd dX6_repeat_130 ?_
      refine g_iload4 dX6_repeat_131 ?_
      refine g_iadd dX6_repeat_133 ?_
      refine g_aload0 dX6_repeat_134 ?_
      refine f_getr (r := 93) rfl (by decide) rfl rfl fl_X6_7 dX6_repeat_135 ?_
      refine g_bipush dX6_repeat_138 (by decide) ?_
      refine g_iload1 dX6_repeat_140 ?_
      refine g_iadd dX6_repeat_141 ?_
      refine g_iload4 dX6_repeat_142 ?_
      refine g_iadd dX6_repeat_144 ?_
      refine f_iald rfl (by decide) ⟨by omega, by show _ < ((67 : Nat) : Int); omega⟩ dX6_repeat_145 ?_
      rw [rq (by omega)]
      refine f_iast rfl (by decide) ⟨by omega, by show _ < ((67 : Nat) : Int); omega⟩ dX6_repeat_146 ?_
      refine g_iinc4 dX6_repeat_147 rfl (by decide) ?_
      refine g_goto (tgt := 115) dX6_repeat_150 rfl ?_
      rw [rg_s (by omega) (by rw [hfe]; congr 1; omega), Int.add_assoc (27 + b + 1)]
      exact ih (by omega) _ (by omega)
  have loop : ∀ q : Nat, q ≤ (N - 1 - b).toNat → ∀ (i : Int), i = b + (N - 1 - b - (q : Int)) → FW g zX6_repeat 0 0 (fun o τ l' => o = .inl (some (iv (N + m))) ∧ l' = l64 ∧ MS σ τ (rpS s a b) (nP n) (pP n s (pr σ)) ∧ τ 92 6 = 0) 78 [some (.ref 92), some (iv a), some (iv b), some (iv m), some (iv i)] [] (rgS σ64 (27 + b + 1 + m + ((N - 1 - b) - (q : Int))) (27 + N + m) f) l64 := by
    refine loopUp _ (fun q hq2 ih i hi => ?_)
    subst hi
    have rq : (q : Int) < N - 1 - b → (rgS σ64 (27 + b + 1 + m + ((N - 1 - b) - (q : Int))) (27 + N + m) f) 93 (27 + (b + (N - 1 - b - (q : Int)))) = s (27 + (b + (N - 1 - b - (q : Int)))) := fun hq => by rw [rg_out (fun z => by omega), hsk]
    refine g_iload4 dX6_repeat_78 ?_
    refine g_iload2 dX6_repeat_80 ?_
    refine g_icmp_le ⟨by omega, by omega⟩ ⟨by omega, by omega⟩ (tgt := 112) dX6_repeat_81 rfl (fun h81 => ?_) (fun h81 => ?_)
    · refine g_iconst dX6_repeat_112 ?_
      refine g_istore4 dX6_repeat_113 rfl (by decide) ?_
      rw [show 27 + b + 1 + m + (N - 1 - b - (q : Int)) = 27 + b + 1 + m from by omega]
      have h0 := loop2 0 (Nat.zero_le _) _ rfl
      rw [rg_0 (by omega)] at h0
      exact h0
    · refine g_aload0 dX6_repeat_84 ?_
      refine f_getr (r := 93) rfl (by decide) rfl rfl fl_X6_7 dX6_repeat_85 ?_
      refine g_bipush dX6_repeat_88 (by decide) ?_
      refine g_iload4 dX6_repeat_90 ?_
      refine g_iadd dX6_repeat_92 ?_
      refine g_iload3 dX6_repeat_93 ?_
      refine g_iadd dX6_repeat_94 ?_
      refine g_aload0 dX6_repeat_95 ?_
      refine f_getr (r := 93) rfl (by decide) rfl rfl fl_X6_7 dX6_repeat_96 ?_
      refine g_bipush dX6_repeat_99 (by decide) ?_
      refine g_iload4 dX6_repeat_101 ?_
      refine g_iadd dX6_repeat_103 ?_
      refine f_iald rfl (by decide) ⟨by omega, by show _ < ((67 : Nat) : Int); omega⟩ dX6_repeat_104 ?_
      rw [rq (by omega)]
      refine f_iast rfl (by decide) ⟨by omega, by show _ < ((67 : Nat) : Int); omega⟩ dX6_repeat_105 ?_
      refine g_iinc4 dX6_repeat_106 rfl (by decide) ?_
      refine g_goto (tgt := 78) dX6_repeat_109 rfl ?_
      rw [show 27 + (b + (N - 1 - b - (q : Int))) + m = 27 + b + 1 + m + (N - 1 - b - (q : Int)) - 1 from by omega, rg_d (by omega) (by rw [hfe]; congr 1; omega), show 27 + b + 1 + m + (N - 1 - b - (q : Int)) - 1 = 27 + b + 1 + m + (N - 1 - b - ((q + 1 : Nat) : Int)) from by omega]
      exact ih (by omega) _ (by omega)
  have h0 := loop 0 (Nat.zero_le _) (N - 1) (by omega)
  rw [rg_0 (by omega)] at h0
  exact h0
theorem repeat_f {B : Int} {s : Int → Int} (ho : SOK B s) (hs : σ 93 = s) {a b : Int} (ha : 0 ≤ a) (hab : a ≤ b) (hb : b < s 9) (hf : ¬ s 9 + (b - a + 1) ≤ 40) : Fo g zX6_repeat [.ref 92, iv a, iv b] σ l (iv (-2)) 0 := by
  have hs0 : up σ 92 6 0 93 = s := (up_n (by decide)).trans hs
  have hM0 : Md σ (up σ 92 6 0) := md_th (Md.refl σ)
  have he0 : up σ 92 6 0 92 6 = 0 := up_eq
  have hp3 := p3_le ho.h7
  have hp0 := p3_pos (wH s)
  have hn40 := ho.n40
  have hnI := ho.nI
  have hH7 := ho.h7
  have hHI := ho.hI
  have hb4 := ho.halves
  have hb5 := ho.crosses
  have hnr := ho.notes
  have i1 := isNote_m (g := g) (l := l) ho hs (p := a) (by omega)
  rw [bvT (by omega)] at i1
  have i2 := isNote_m (g := g) (l := l) ho hs (p := b) (by omega)
  rw [bvT (by omega)] at i2
  refine Fn.of [some (.ref 92), some (iv a), some (iv b), none, none] rfl (by decide) (Nat.le_of_ble_eq_true rfl) rfl ?_
  refine g_aload0 dX6_repeat_0 ?_
  refine g_aload0 dX6_repeat_1 ?_
  refine g_iload1 dX6_repeat_2 ?_
  refine f_cV1w (i1) rfl (by decide) rfl oY_X6_isNote oI_X6_isNote lk_X6_327 rfl dX6_repeat_3 rfl (Or.inl rfl) ?_
  refine g_if_eq ⟨by decide, by decide⟩ (tgt := 21) dX6_repeat_6 rfl (fun h6 => absurd h6 (by decide)) (fun h6 => ?_)
  refine g_aload0 dX6_repeat_9 ?_
  refine g_iload2 dX6_repeat_10 ?_
  refine f_cV1w (i2) rfl (by decide) rfl oY_X6_isNote oI_X6_isNote lk_X6_327 rfl dX6_repeat_11 rfl (Or.inl rfl) ?_
  refine g_if_eq ⟨by decide, by decide⟩ (tgt := 21) dX6_repeat_14 rfl (fun h14 => absurd h14 (by decide)) (fun h14 => ?_)
  refine g_iconst dX6_repeat_17 ?_
  refine g_goto (tgt := 22) dX6_repeat_18 rfl ?_
  refine g_iload1 dX6_repeat_22 ?_
  refine g_iload2 dX6_repeat_23 ?_
  refine g_icmp_gt ⟨by omega, by omega⟩ ⟨by omega, by omega⟩ (tgt := 31) dX6_repeat_24 rfl (fun h24 => absurd h24 (by omega)) (fun h24 => ?_)
  refine g_iconst dX6_repeat_27 ?_
  refine g_goto (tgt := 32) dX6_repeat_28 rfl ?_
  refine f_cV2x (passes_11) rfl (by decide) rfl oY_X6_passes oI_X6_passes lk_X6_285 rfl dX6_repeat_32 rfl (Or.inl rfl) ?_
  refine g_if_ne ⟨by decide, by decide⟩ (tgt := 40) dX6_repeat_35 rfl (fun h35 => ?_) (fun h35 => absurd h35 (by decide))
  refine g_iload2 dX6_repeat_40 ?_
  refine g_iload1 dX6_repeat_41 ?_
  refine g_isub dX6_repeat_42 ?_
  refine g_iconst dX6_repeat_43 ?_
  refine g_iadd dX6_repeat_44 ?_
  refine g_istore3 dX6_repeat_45 rfl (by decide) ?_
  refine g_aload0 dX6_repeat_46 ?_
  refine f_getr (r := 93) rfl (by decide) rfl rfl fl_X6_7 dX6_repeat_47 ?_
  try rw [hs0]
  refine g_bipush dX6_repeat_50 (by decide) ?_
  refine f_iald rfl (by decide) ⟨by omega, by show _ < ((67 : Nat) : Int); omega⟩ dX6_repeat_52 ?_
  try rw [hs0]
  refine g_iload3 dX6_repeat_53 ?_
  refine g_iadd dX6_repeat_54 ?_
  refine g_bipush dX6_repeat_55 (by decide) ?_
  refine g_icmp_le ⟨by omega, by omega⟩ ⟨by omega, by omega⟩ (tgt := 63) dX6_repeat_57 rfl (fun h57 => absurd h57 (by omega)) (fun h57 => ?_)
  refine g_bipush dX6_repeat_60 (by decide) ?_
  refine g_iretI rfl dX6_repeat_62 ?_
  exact Fo.ret rfl hM0 he0
theorem repeat_r2 {B : Int} {s : Int → Int} (ho : SOK B s) (hs : σ 93 = s) {a b : Int} (ha : 0 ≤ a ∧ a < s 9) (hb : 0 ≤ b ∧ b < s 9) (hf : ¬ a ≤ b) : Fo g zX6_repeat [.ref 92, iv a, iv b] σ l (iv 0) 2 := by
  have hs0 : up σ 92 6 0 93 = s := (up_n (by decide)).trans hs
  have hM0 : Md σ (up σ 92 6 0) := md_th (Md.refl σ)
  have he0 : up σ 92 6 0 92 6 = 0 := up_eq
  have hp3 := p3_le ho.h7
  have hp0 := p3_pos (wH s)
  have hn40 := ho.n40
  have hnI := ho.nI
  have hH7 := ho.h7
  have hHI := ho.hI
  have hb4 := ho.halves
  have hb5 := ho.crosses
  have hnr := ho.notes
  have i1 := isNote_m (g := g) (l := l) ho hs (p := a) (by omega)
  rw [bvT (by omega)] at i1
  have i2 := isNote_m (g := g) (l := l) ho hs (p := b) (by omega)
  rw [bvT (by omega)] at i2
  refine Fn.of [some (.ref 92), some (iv a), some (iv b), none, none] rfl (by decide) (Nat.le_of_ble_eq_true rfl) rfl ?_
  refine g_aload0 dX6_repeat_0 ?_
  refine g_aload0 dX6_repeat_1 ?_
  refine g_iload1 dX6_repeat_2 ?_
  refine f_cV1w (i1) rfl (by decide) rfl oY_X6_isNote oI_X6_isNote lk_X6_327 rfl dX6_repeat_3 rfl (Or.inl rfl) ?_
  refine g_if_eq ⟨by decide, by decide⟩ (tgt := 21) dX6_repeat_6 rfl (fun h6 => absurd h6 (by decide)) (fun h6 => ?_)
  refine g_aload0 dX6_repeat_9 ?_
  refine g_iload2 dX6_repeat_10 ?_
  refine f_cV1w (i2) rfl (by decide) rfl oY_X6_isNote oI_X6_isNote lk_X6_327 rfl dX6_repeat_11 rfl (Or.inl rfl) ?_
  refine g_if_eq ⟨by decide, by decide⟩ (tgt := 21) dX6_repeat_14 rfl (fun h14 => absurd h14 (by decide)) (fun h14 => ?_)
  refine g_iconst dX6_repeat_17 ?_
  refine g_goto (tgt := 22) dX6_repeat_18 rfl ?_
  refine g_iload1 dX6_repeat_22 ?_
  refine g_iload2 dX6_repeat_23 ?_
  refine g_icmp_gt ⟨by omega, by omega⟩ ⟨by omega, by omega⟩ (tgt := 31) dX6_repeat_24 rfl (fun h24 => ?_) (fun h24 => absurd h24 (by omega))
  refine g_iconst dX6_repeat_31 ?_
  refine f_cV2x (passes_10) rfl (by decide) rfl oY_X6_passes oI_X6_passes lk_X6_285 rfl dX6_repeat_32 rfl (Or.inl rfl) ?_
  refine g_if_ne ⟨by decide, by decide⟩ (tgt := 40) dX6_repeat_35 rfl (fun h35 => absurd h35 (by decide)) (fun h35 => ?_)
  refine g_iconst dX6_repeat_38 ?_
  refine g_iretI rfl dX6_repeat_39 ?_
  exact Fo.ret rfl (md_th (Md.refl σ)) up_eq
theorem repeat_r1 {B : Int} {s : Int → Int} (ho : SOK B s) (hs : σ 93 = s) {a b : Int} (hx : R32 a) (hy : R32 b) (h : ¬ ((0 ≤ a ∧ a < s 9) ∧ 0 ≤ b ∧ b < s 9)) : Fo g zX6_repeat [.ref 92, iv a, iv b] σ l (iv 0) 1 := by
  have hs0 : up σ 92 6 0 93 = s := (up_n (by decide)).trans hs
  have hM0 : Md σ (up σ 92 6 0) := md_th (Md.refl σ)
  have he0 : up σ 92 6 0 92 6 = 0 := up_eq
  have hp3 := p3_le ho.h7
  have hp0 := p3_pos (wH s)
  have hn40 := ho.n40
  have hnI := ho.nI
  have hH7 := ho.h7
  have hHI := ho.hI
  have hb4 := ho.halves
  have hb5 := ho.crosses
  have i1 := isNote_m (g := g) (l := l) ho hs (p := a) hx
  have i2 := isNote_m (g := g) (l := l) ho hs (p := b) hy
  refine Fn.of [some (.ref 92), some (iv a), some (iv b), none, none] rfl (by decide) (Nat.le_of_ble_eq_true rfl) rfl ?_
  by_cases c1 : 0 ≤ a ∧ a < s 9
  · rw [bvT c1] at i1
    rw [bvF (fun z => h ⟨c1, z⟩)] at i2
    refine g_aload0 dX6_repeat_0 ?_
    refine g_aload0 dX6_repeat_1 ?_
    refine g_iload1 dX6_repeat_2 ?_
    refine f_cV1w (i1) rfl (by decide) rfl oY_X6_isNote oI_X6_isNote lk_X6_327 rfl dX6_repeat_3 rfl (Or.inl rfl) ?_
    refine g_if_eq ⟨by decide, by decide⟩ (tgt := 21) dX6_repeat_6 rfl (fun h6 => absurd h6 (by decide)) (fun h6 => ?_)
    refine g_aload0 dX6_repeat_9 ?_
    refine g_iload2 dX6_repeat_10 ?_
    refine f_cV1w (i2) rfl (by decide) rfl oY_X6_isNote oI_X6_isNote lk_X6_327 rfl dX6_repeat_11 rfl (Or.inl rfl) ?_
    refine g_if_eq ⟨by decide, by decide⟩ (tgt := 21) dX6_repeat_14 rfl (fun h14 => ?_) (fun h14 => absurd h14 (by decide))
    refine g_iconst dX6_repeat_21 ?_
    refine g_iload1 dX6_repeat_22 ?_
    refine g_iload2 dX6_repeat_23 ?_
    refine g_icmp_gt ⟨by omega, by omega⟩ ⟨by omega, by omega⟩ (tgt := 31) dX6_repeat_24 rfl (fun h24 => ?_) (fun h24 => ?_)
    · refine g_iconst dX6_repeat_31 ?_
      refine f_cV2x (passes_00) rfl (by decide) rfl oY_X6_passes oI_X6_passes lk_X6_285 rfl dX6_repeat_32 rfl (Or.inl rfl) ?_
      refine g_if_ne ⟨by decide, by decide⟩ (tgt := 40) dX6_repeat_35 rfl (fun h35 => absurd h35 (by decide)) (fun h35 => ?_)
      refine g_iconst dX6_repeat_38 ?_
      refine g_iretI rfl dX6_repeat_39 ?_
      exact Fo.ret rfl (md_th (Md.refl σ)) up_eq
    · refine g_iconst dX6_repeat_27 ?_
      refine g_goto (tgt := 32) dX6_repeat_28 rfl ?_
      refine f_cV2x (passes_01) rfl (by decide) rfl oY_X6_passes oI_X6_passes lk_X6_285 rfl dX6_repeat_32 rfl (Or.inl rfl) ?_
      refine g_if_ne ⟨by decide, by decide⟩ (tgt := 40) dX6_repeat_35 rfl (fun h35 => absurd h35 (by decide)) (fun h35 => ?_)
      refine g_iconst dX6_repeat_38 ?_
      refine g_iretI rfl dX6_repeat_39 ?_
      exact Fo.ret rfl (md_th (Md.refl σ)) up_eq
  · rw [bvF c1] at i1
    refine g_aload0 dX6_repeat_0 ?_
    refine g_aload0 dX6_repeat_1 ?_
    refine g_iload1 dX6_repeat_2 ?_
    refine f_cV1w (i1) rfl (by decide) rfl oY_X6_isNote oI_X6_isNote lk_X6_327 rfl dX6_repeat_3 rfl (Or.inl rfl) ?_
    refine g_if_eq ⟨by decide, by decide⟩ (tgt := 21) dX6_repeat_6 rfl (fun h6 => ?_) (fun h6 => absurd h6 (by decide))
    refine g_iconst dX6_repeat_21 ?_
    refine g_iload1 dX6_repeat_22 ?_
    refine g_iload2 dX6_repeat_23 ?_
    refine g_icmp_gt ⟨by omega, by omega⟩ ⟨by omega, by omega⟩ (tgt := 31) dX6_repeat_24 rfl (fun h24 => ?_) (fun h24 => ?_)
    · refine g_iconst dX6_repeat_31 ?_
      refine f_cV2x (passes_00) rfl (by decide) rfl oY_X6_passes oI_X6_passes lk_X6_285 rfl dX6_repeat_32 rfl (Or.inl rfl) ?_
      refine g_if_ne ⟨by decide, by decide⟩ (tgt := 40) dX6_repeat_35 rfl (fun h35 => absurd h35 (by decide)) (fun h35 => ?_)
      refine g_iconst dX6_repeat_38 ?_
      refine g_iretI rfl dX6_repeat_39 ?_
      exact Fo.ret rfl (md_th (Md.refl σ)) up_eq
    · refine g_iconst dX6_repeat_27 ?_
      refine g_goto (tgt := 32) dX6_repeat_28 rfl ?_
      refine f_cV2x (passes_01) rfl (by decide) rfl oY_X6_passes oI_X6_passes lk_X6_285 rfl dX6_repeat_32 rfl (Or.inl rfl) ?_
      refine g_if_ne ⟨by decide, by decide⟩ (tgt := 40) dX6_repeat_35 rfl (fun h35 => absurd h35 (by decide)) (fun h35 => ?_)
      refine g_iconst dX6_repeat_38 ?_
      refine g_iretI rfl dX6_repeat_39 ?_
      exact Fo.ret rfl (md_th (Md.refl σ)) up_eq
theorem isNoted_w {N t : Int} {k : Nat} (h9 : σ 93 9 = N) (hN : 0 ≤ N ∧ N ≤ 40) (ht : σ 93 (27 + (k : Int)) = t) (htr : R32 t) (hk : k < 40) : Fw g zX6_isNoted [.ref 92, iv (k : Int)] σ l (bv ((k : Int) < N ∧ t ≠ -1)) := by
  refine Fn.of [some (.ref 92), some (iv (k : Int))] rfl (by decide) (Nat.le_of_ble_eq_true rfl) rfl ?_
  refine g_iload1 dX6_isNoted_0 ?_
  refine g_aload0 dX6_isNoted_1 ?_
  refine f_getr (r := 93) rfl (by decide) rfl rfl fl_X6_7 dX6_isNoted_2 ?_
  refine g_bipush dX6_isNoted_5 (by decide) ?_
  refine f_iald rfl (by decide) ⟨by omega, by show _ < ((67 : Nat) : Int); omega⟩ dX6_isNoted_7 ?_
  rw [h9]
  refine g_icmp_ge ⟨by omega, by omega⟩ ⟨by omega, by omega⟩ (tgt := 24) dX6_isNoted_8 rfl (fun h8 => ?_) (fun h8 => ?_)
  · refine g_iconst dX6_isNoted_24 ?_
    refine g_iretB (Or.inl rfl) rfl dX6_isNoted_25 ?_
    first
      | exact Fw.ret0 (fun z => by omega)
      | exact Fw.ret1 ⟨by omega, by omega⟩
  · refine g_aload0 dX6_isNoted_11 ?_
    refine g_iload1 dX6_isNoted_12 ?_
    refine f_cV1w (toneAt_m (s := σ 93) rfl hk) rfl (by decide) rfl oY_X6_toneAt oI_X6_toneAt lk_X6_143 rfl dX6_isNoted_13 rfl (Or.inl rfl) ?_
    rw [show wTu (σ 93) (k : Int) = t from ht]
    refine g_iconst dX6_isNoted_16 ?_
    refine g_icmp_eq htr ⟨by decide, by decide⟩ (tgt := 24) dX6_isNoted_17 rfl (fun h17 => ?_) (fun h17 => ?_)
    · refine g_iconst dX6_isNoted_24 ?_
      refine g_iretB (Or.inl rfl) rfl dX6_isNoted_25 ?_
      first
        | exact Fw.ret0 (fun z => by omega)
        | exact Fw.ret1 ⟨by omega, by omega⟩
    · refine g_iconst dX6_isNoted_20 ?_
      refine g_goto (tgt := 25) dX6_isNoted_21 rfl ?_
      refine g_iretB (Or.inr rfl) rfl dX6_isNoted_25 ?_
      first
        | exact Fw.ret0 (fun z => by omega)
        | exact Fw.ret1 ⟨by omega, by omega⟩
theorem hgS_ok {B : Int} {s : Int → Int} {b : Int} (ho : SOK B s) (hg : hgB s b (wN s) = true) : SOK B (hgS s b) := by
  have hn := ho.nI
  refine ho.tn (fun k hk _ _ => hgS_e k hk) (by rw [hgS_9]; exact ho.notes) (by rw [hgS_9, show hgS s b 12 = s 12 from hgS_e 12 (by decide)]; exact ho.place) (fun k k0 k1 => ?_)
  rw [hgS_9] at k1
  rw [hgS_t k0 k1]
  have h := hgB_at (k := k.toNat) (by omega) hg
  rw [Int.toNat_of_nonneg k0] at h
  split <;> omega
theorem hg_row {s f : Int → Int} {b N : Int} (hN : N = s 9) (hfe : ∀ j, f j = if s j = -1 then -1 else s j + b) : Rw (rfS 27 (27 + N) f s) (hgS s b) := by
  intro j j0 j1
  unfold rfS hgS
  by_cases c : 27 ≤ j ∧ j < 27 + N
  · rw [if_pos c, hfe]
    by_cases d : s j = -1
    · rw [if_pos d, if_neg (fun z => z.2.2 d)]; exact d.symm
    · rw [if_neg d, if_pos ⟨c.1, by omega, d⟩]
  · rw [if_neg c, if_neg (fun z => c ⟨z.1, by omega⟩)]
theorem higher_q {B : Int} {s : Int → Int} (ho : SOK B s) (hs : σ 93 = s) {n : Nat} (hn : σ 92 5 = (n : Int)) (h8 : n ≤ 8) {b : Int} (hb : -12 ≤ b ∧ b ≤ 12) (hg : hgB s b (wN s) = true) : Ms g zX6_higher [.ref 92, iv b] σ l (iv (cntS (wTu (hgS s b)) (wN s))) (hgS s b) (nP n) (pP n s (pr σ)) := by
  have hs0 : up σ 92 6 0 93 = s := (up_n (by decide)).trans hs
  have hM0 : Md σ (up σ 92 6 0) := md_th (Md.refl σ)
  have he0 : up σ 92 6 0 92 6 = 0 := up_eq
  have hp3 := p3_le ho.h7
  have hp0 := p3_pos (wH s)
  have hn40 := ho.n40
  have hnI := ho.nI
  have hH7 := ho.h7
  have hHI := ho.hI
  have hb4 := ho.halves
  have hb5 := ho.crosses
  have h1 := isIn_ok (g := g) (σ := σ) (l := l) (x := b) (a := -12) (b := 12) (by omega) (by decide) (by decide)
  rw [bvT hb] at h1
  have i2 := canShift_m (g := g) (l := l) ho hs0 hb
  rw [bvT hg] at i2
  have hnr := ho.notes
  obtain ⟨f, hf0⟩ : ∃ f : Int → Int, f = fun j => if s j = -1 then -1 else s j + b := ⟨_, rfl⟩
  have hfe : ∀ j, f j = if s j = -1 then -1 else s j + b := fun j => by rw [hf0]
  refine Fn.of [some (.ref 92), some (iv b), none] rfl (by decide) (Nat.le_of_ble_eq_true rfl) rfl ?_
  refine g_aload0 dX6_higher_0 ?_
  refine g_iload1 dX6_higher_1 ?_
  refine g_i2l ⟨by omega, by omega⟩ dX6_higher_2 ?_
  refine g_ldc2 (v := Int64.ofInt (-12)) kn_X6_348 dX6_higher_3 ?_
  refine g_ldc2 (v := Int64.ofInt (12)) kl_X6_350 dX6_higher_6 ?_
  refine f_cS3w (h1) oY_X6_isIn oT_X6_isIn lk_X6_83 rfl dX6_higher_9 rfl (Or.inl rfl) ?_
  refine g_iconst dX6_higher_12 ?_
  refine f_cV2x (passes_11) rfl (by decide) rfl oY_X6_passes oI_X6_passes lk_X6_285 rfl dX6_higher_13 rfl (Or.inl rfl) ?_
  refine g_if_ne ⟨by decide, by decide⟩ (tgt := 21) dX6_higher_16 rfl (fun h16 => ?_) (fun h16 => absurd h16 (by decide))
  refine g_aload0 dX6_higher_21 ?_
  refine g_iload1 dX6_higher_22 ?_
  refine f_cV1w (i2) rfl (by decide) rfl oY_X6_canShift oI_X6_canShift lk_X6_168 rfl dX6_higher_23 rfl (Or.inl rfl) ?_
  refine g_if_ne ⟨by decide, by decide⟩ (tgt := 32) dX6_higher_26 rfl (fun h26 => ?_) (fun h26 => absurd h26 (by decide))
  refine g_aload0 dX6_higher_32 ?_
  refine f_cV0m (keepsP (B := B) hM0 hs hn h8) rfl (by decide) rfl oY_X6_keeps oI_X6_keeps lk_X6_364 rfl dX6_higher_33 (by omega) (by omega) rfl (Or.inl rfl) (fun σ33 l33 h33 => ?_)
  have elk := h33.1
  subst elk
  have hsk := h33.2.1
  have hSk := h33.2.2.1
  have hek : σ33 92 6 = 0 := h33.2.2.2.trans he0
  refine g_iconst dX6_higher_36 ?_
  refine g_istore2 dX6_higher_37 rfl (by decide) ?_
  have loop : ∀ q : Nat, q ≤ wN s → ∀ (i : Int), i = (q : Int) → FW g zX6_higher 0 0 (fun o τ l' => o = .inl (some (iv (cntS (wTu (hgS s b)) (wN s)))) ∧ l' = l33 ∧ MS σ τ (hgS s b) (nP n) (pP n s (pr σ)) ∧ τ 92 6 = 0) 38 [some (.ref 92), some (iv b), some (iv i)] [] (rgS σ33 27 (27 + (q : Int)) f) l33 := by
    refine loopUp _ (fun q hq2 ih i hi => ?_)
    subst hi
    have r9 : (rgS σ33 27 (27 + (q : Int)) f) 93 9 = s 9 := by rw [rg_out (fun z => by omega), hsk]
    have rq : (q : Int) < s 9 → (rgS σ33 27 (27 + (q : Int)) f) 93 (27 + (q : Int)) = s (27 + (q : Int)) := fun hq => by rw [rg_out (fun z => by omega), hsk]
    have hTr : (q : Int) < s 9 → R32 (s (27 + (q : Int))) := fun hq => by
      have h9 := ho.tune (q : Int) (by omega) hq
      rw [show wTu s (q : Int) = s (27 + (q : Int)) from rfl] at h9
      exact ⟨by omega, by omega⟩
    refine g_iload2 dX6_higher_38 ?_
    refine g_aload0 dX6_higher_39 ?_
    refine f_getr (r := 93) rfl (by decide) rfl rfl fl_X6_7 dX6_higher_40 ?_
    refine g_bipush dX6_higher_43 (by decide) ?_
    refine f_iald rfl (by decide) ⟨by omega, by show _ < ((67 : Nat) : Int); omega⟩ dX6_higher_45 ?_
    rw [r9]
    refine g_icmp_ge ⟨by omega, by omega⟩ ⟨by omega, by omega⟩ (tgt := 80) dX6_higher_46 rfl (fun h46 => ?_) (fun h46 => ?_)
    · have eq9 : (q : Int) = s 9 := by omega
      have hS2 := (hSk.rg 27 (27 + s 9) f).rw (hg_row rfl hfe)
      rw [eq9] at r9 ⊢
      have hoq : SOK B (rgS σ33 27 (27 + s 9) f 93) := (hgS_ok ho hg).rw hS2.2.2.2.1.symm
      refine g_aload0 dX6_higher_80 ?_
      refine f_getr (r := 93) rfl (by decide) rfl rfl fl_X6_7 dX6_higher_81 ?_
      refine g_bipush dX6_higher_84 (by decide) ?_
      refine f_iald rfl (by decide) ⟨by omega, by show _ < ((67 : Nat) : Int); omega⟩ dX6_higher_86 ?_
      rw [r9]
      refine g_aload0 dX6_higher_87 ?_
      refine f_cV0w (rests_m hoq rfl) rfl (by decide) rfl oY_X6_rests oI_X6_rests lk_X6_289 rfl dX6_higher_88 rfl (Or.inl rfl) ?_
      refine g_isub dX6_higher_91 ?_
      refine g_iretI rfl dX6_higher_92 ?_
      refine Ms.ret (congrArg iv ?_) hS2 (by rw [rg_n (by decide)]; exact hek)
      have e9 : wN (rgS σ33 27 (27 + s 9) f 93) = wN s := by unfold wN; rw [r9]
      have ec : cntS (wTu (rgS σ33 27 (27 + s 9) f 93)) (wN s) = cntS (wTu (hgS s b)) (wN s) := cntS_congr _ (fun k hk => hS2.2.2.2.1.tu (by omega) (by omega))
      rw [e9, ec]
      omega
    · refine g_aload0 dX6_higher_49 ?_
      refine f_getr (r := 93) rfl (by decide) rfl rfl fl_X6_7 dX6_higher_50 ?_
      refine g_bipush dX6_higher_53 (by decide) ?_
      refine g_iload2 dX6_higher_55 ?_
      refine g_iadd dX6_higher_56 ?_
      refine g_dup2 rfl rfl dX6_higher_57 ?_
      refine f_iald rfl (by decide) ⟨by omega, by show _ < ((67 : Nat) : Int); omega⟩ dX6_higher_58 ?_
      rw [rq (by omega)]
      refine g_aload0 dX6_higher_59 ?_
      refine g_iload2 dX6_higher_60 ?_
      refine f_cV1w (isNoted_w (N := s 9) (t := s (27 + (q : Int))) r9 (by omega) (rq (by omega)) (hTr (by omega)) (by omega)) rfl (by decide) rfl oY_X6_isNoted oI_X6_isNoted lk_X6_152 rfl dX6_higher_61 rfl (Or.inl rfl) ?_
      refine g_ifeqB (tgt := 71) dX6_higher_64 rfl (fun h64 => ?_) (fun h64 => ?_)
      · refine g_iconst dX6_higher_71 ?_
        refine g_iadd dX6_higher_72 ?_
        refine f_iast rfl (by decide) ⟨by omega, by show _ < ((67 : Nat) : Int); omega⟩ dX6_higher_73 ?_
        refine g_iinc2 dX6_higher_74 rfl (by decide) ?_
        refine g_goto (tgt := 38) dX6_higher_77 rfl ?_
        first
          | (have y : s (27 + (q : Int)) = -1 := Classical.byContradiction (fun z => h64 ⟨by omega, z⟩)
             rw [rg_s (by omega) (by rw [hfe, if_pos y, y]; rfl), Int.add_assoc 27]
             exact ih (by omega) _ (by omega))
          | (have y : s (27 + (q : Int)) ≠ -1 := h64.2
             rw [rg_s (by omega) (by rw [hfe, if_neg y]), Int.add_assoc 27]
             exact ih (by omega) _ (by omega))
      · refine g_iload1 dX6_higher_67 ?_
        refine g_goto (tgt := 72) dX6_higher_68 rfl ?_
        refine g_iadd dX6_higher_72 ?_
        refine f_iast rfl (by decide) ⟨by omega, by show _ < ((67 : Nat) : Int); omega⟩ dX6_higher_73 ?_
        refine g_iinc2 dX6_higher_74 rfl (by decide) ?_
        refine g_goto (tgt := 38) dX6_higher_77 rfl ?_
        first
          | (have y : s (27 + (q : Int)) = -1 := Classical.byContradiction (fun z => h64 ⟨by omega, z⟩)
             rw [rg_s (by omega) (by rw [hfe, if_pos y, y]; rfl), Int.add_assoc 27]
             exact ih (by omega) _ (by omega))
          | (have y : s (27 + (q : Int)) ≠ -1 := h64.2
             rw [rg_s (by omega) (by rw [hfe, if_neg y]), Int.add_assoc 27]
             exact ih (by omega) _ (by omega))
  have h0 := loop 0 (Nat.zero_le _) _ rfl
  rw [rg_0 (by omega)] at h0
  exact h0
theorem higher_f {B : Int} {s : Int → Int} (ho : SOK B s) (hs : σ 93 = s) {b : Int} (hb : -12 ≤ b ∧ b ≤ 12) (hg : hgB s b (wN s) ≠ true) : Fo g zX6_higher [.ref 92, iv b] σ l (iv (-3)) 0 := by
  have hs0 : up σ 92 6 0 93 = s := (up_n (by decide)).trans hs
  have hM0 : Md σ (up σ 92 6 0) := md_th (Md.refl σ)
  have he0 : up σ 92 6 0 92 6 = 0 := up_eq
  have hp3 := p3_le ho.h7
  have hp0 := p3_pos (wH s)
  have hn40 := ho.n40
  have hnI := ho.nI
  have hH7 := ho.h7
  have hHI := ho.hI
  have hb4 := ho.halves
  have hb5 := ho.crosses
  have h1 := isIn_ok (g := g) (σ := σ) (l := l) (x := b) (a := -12) (b := 12) (by omega) (by decide) (by decide)
  rw [bvT hb] at h1
  have i2 := canShift_m (g := g) (l := l) ho hs0 hb
  rw [bvF hg] at i2
  refine Fn.of [some (.ref 92), some (iv b), none] rfl (by decide) (Nat.le_of_ble_eq_true rfl) rfl ?_
  refine g_aload0 dX6_higher_0 ?_
  refine g_iload1 dX6_higher_1 ?_
  refine g_i2l ⟨by omega, by omega⟩ dX6_higher_2 ?_
  refine g_ldc2 (v := Int64.ofInt (-12)) kn_X6_348 dX6_higher_3 ?_
  refine g_ldc2 (v := Int64.ofInt (12)) kl_X6_350 dX6_higher_6 ?_
  refine f_cS3w (h1) oY_X6_isIn oT_X6_isIn lk_X6_83 rfl dX6_higher_9 rfl (Or.inl rfl) ?_
  refine g_iconst dX6_higher_12 ?_
  refine f_cV2x (passes_11) rfl (by decide) rfl oY_X6_passes oI_X6_passes lk_X6_285 rfl dX6_higher_13 rfl (Or.inl rfl) ?_
  refine g_if_ne ⟨by decide, by decide⟩ (tgt := 21) dX6_higher_16 rfl (fun h16 => ?_) (fun h16 => absurd h16 (by decide))
  refine g_aload0 dX6_higher_21 ?_
  refine g_iload1 dX6_higher_22 ?_
  refine f_cV1w (i2) rfl (by decide) rfl oY_X6_canShift oI_X6_canShift lk_X6_168 rfl dX6_higher_23 rfl (Or.inl rfl) ?_
  refine g_if_ne ⟨by decide, by decide⟩ (tgt := 32) dX6_higher_26 rfl (fun h26 => absurd h26 (by decide)) (fun h26 => ?_)
  refine g_bipush dX6_higher_29 (by decide) ?_
  refine g_iretI rfl dX6_higher_31 ?_
  exact Fo.ret rfl hM0 he0
theorem higher_r {B : Int} {s : Int → Int} (ho : SOK B s) (hs : σ 93 = s) {b : Int} (hx : R32 b) (hb : ¬ (-12 ≤ b ∧ b ≤ 12)) : Fo g zX6_higher [.ref 92, iv b] σ l (iv 0) 1 := by
  have hs0 : up σ 92 6 0 93 = s := (up_n (by decide)).trans hs
  have hM0 : Md σ (up σ 92 6 0) := md_th (Md.refl σ)
  have he0 : up σ 92 6 0 92 6 = 0 := up_eq
  have hp3 := p3_le ho.h7
  have hp0 := p3_pos (wH s)
  have hn40 := ho.n40
  have hnI := ho.nI
  have hH7 := ho.h7
  have hHI := ho.hI
  have hb4 := ho.halves
  have hb5 := ho.crosses
  have h1 := isIn_ok (g := g) (σ := σ) (l := l) (x := b) (a := -12) (b := 12) (by omega) (by decide) (by decide)
  rw [bvF hb] at h1
  refine Fn.of [some (.ref 92), some (iv b), none] rfl (by decide) (Nat.le_of_ble_eq_true rfl) rfl ?_
  refine g_aload0 dX6_higher_0 ?_
  refine g_iload1 dX6_higher_1 ?_
  refine g_i2l ⟨by omega, by omega⟩ dX6_higher_2 ?_
  refine g_ldc2 (v := Int64.ofInt (-12)) kn_X6_348 dX6_higher_3 ?_
  refine g_ldc2 (v := Int64.ofInt (12)) kl_X6_350 dX6_higher_6 ?_
  refine f_cS3w (h1) oY_X6_isIn oT_X6_isIn lk_X6_83 rfl dX6_higher_9 rfl (Or.inl rfl) ?_
  refine g_iconst dX6_higher_12 ?_
  refine f_cV2x (passes_01) rfl (by decide) rfl oY_X6_passes oI_X6_passes lk_X6_285 rfl dX6_higher_13 rfl (Or.inl rfl) ?_
  refine g_if_ne ⟨by decide, by decide⟩ (tgt := 21) dX6_higher_16 rfl (fun h16 => absurd h16 (by decide)) (fun h16 => ?_)
  refine g_iconst dX6_higher_19 ?_
  refine g_iretI rfl dX6_higher_20 ?_
  exact Fo.ret rfl (md_th (Md.refl σ)) up_eq
end C81
