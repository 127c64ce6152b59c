/-! The model: begins, load, append, what load said -/
section C90
variable {g : gT} {σ τ : sT} {l : Nat → Nat}
def zrS (σ : sT) (r : Nat) (k : Nat) : sT := fun a j => if a = r ∧ 0 ≤ j ∧ j < (k : Int) then 0 else σ a j
theorem zrS_0 {r : Nat} : zrS σ r 0 = σ := by
  funext a j
  unfold zrS
  rw [if_neg (fun z => by omega)]
theorem zrS_s {r k : Nat} : up (zrS σ r k) r (k : Int) 0 = zrS σ r (k + 1) := by
  funext a j
  unfold up zrS
  by_cases c : a = r ∧ j = (k : Int)
  · rw [if_pos c, if_pos ⟨c.1, by omega, by omega⟩]
  · rw [if_neg c]
    by_cases d : a = r ∧ 0 ≤ j ∧ j < (k : Int)
    · rw [if_pos d, if_pos ⟨d.1, by omega, by omega⟩]
    · rw [if_neg d, if_neg (fun z => d ⟨z.1, z.2.1, by
        have : j ≠ (k : Int) := fun y => c ⟨z.1, y⟩
        omega⟩)]
def bgM (σ : sT) (r : Nat) : sT := up (up (up (up (up (zrS σ r 67) r 4 1) r 5 1) r 6 1) r 7 2) r 8 1
theorem bgM_n {r a : Nat} (h : a ≠ r) : bgM σ r a = σ a := by
  unfold bgM
  rw [up_n h, up_n h, up_n h, up_n h, up_n h]
  funext j
  unfold zrS
  rw [if_neg (fun z => h z.1)]
theorem bgM_r {r : Nat} : Rw (bgM σ r r) (bgR 0 0 0) := by
  intro j j0 j1
  show bgM σ r r j = bgR 0 0 0 j
  unfold bgM bgR up
  by_cases c8 : j = 8
  · subst c8; rw [if_pos ⟨rfl, rfl⟩]; rfl
  · rw [if_neg (fun z => c8 z.2)]
    by_cases c7 : j = 7
    · subst c7; rw [if_pos ⟨rfl, rfl⟩]; rfl
    · rw [if_neg (fun z => c7 z.2)]
      by_cases c6 : j = 6
      · subst c6; rw [if_pos ⟨rfl, rfl⟩]; rfl
      · rw [if_neg (fun z => c6 z.2)]
        by_cases c5 : j = 5
        · subst c5; rw [if_pos ⟨rfl, rfl⟩]; rfl
        · rw [if_neg (fun z => c5 z.2)]
          by_cases c4 : j = 4
          · subst c4; rw [if_pos ⟨rfl, rfl⟩]; rfl
          · rw [if_neg (fun z => c4 z.2), if_neg c4, if_neg c5, if_neg c6, if_neg c7, if_neg c8]
            unfold zrS
            rw [if_pos ⟨rfl, j0, by omega⟩]
            by_cases c0 : j = 0
            · rw [if_pos c0]
            · rw [if_neg c0]
              by_cases c1 : j = 1
              · rw [if_pos c1]
              · rw [if_neg c1]
                by_cases c2 : j = 2
                · rw [if_pos c2]
                · rw [if_neg c2]
theorem begins_m {r : Nat} (hr : kd r = 0) (hr2 : r < 110) (hl : (67 : Int) ≤ (ln l r : Int)) : FO g zX6_begins [.ref r] σ l (bgM σ r) := by
  refine Fn.of [some (.ref r), none] rfl (by decide) (Nat.le_of_ble_eq_true rfl) rfl ?_
  have loop : ∀ k : Nat, k ≤ 67 → ∀ i : Int, i = (k : Int) → FW g zX6_begins 0 0 (fun o σ' l' => o = .inl none ∧ σ' = bgM σ r ∧ l' = l) 2 [some (.ref r), some (iv i)] [] (zrS σ r k) l := by
    refine loopUp _ (fun k hk2 ih i hi => ?_)
    subst hi
    refine g_iload1 dX6_begins_2 ?_
    refine g_bipush dX6_begins_3 (by decide) ?_
    refine g_icmp_ge ⟨by omega, by omega⟩ ⟨by omega, by omega⟩ (tgt := 18) dX6_begins_5 rfl (fun h5 => ?_) (fun h5 => ?_)
    · have e9 : k = 67 := by omega
      subst e9
      refine g_aload0 dX6_begins_18 ?_
      refine g_iconst dX6_begins_19 ?_
      refine g_iconst dX6_begins_20 ?_
      refine f_iast hr hr2 ⟨by omega, by omega⟩ dX6_begins_21 ?_
      refine g_aload0 dX6_begins_22 ?_
      refine g_iconst dX6_begins_23 ?_
      refine g_iconst dX6_begins_24 ?_
      refine f_iast hr hr2 ⟨by omega, by omega⟩ dX6_begins_25 ?_
      refine g_aload0 dX6_begins_26 ?_
      refine g_bipush dX6_begins_27 (by decide) ?_
      refine g_iconst dX6_begins_29 ?_
      refine f_iast hr hr2 ⟨by omega, by omega⟩ dX6_begins_30 ?_
      refine g_aload0 dX6_begins_31 ?_
      refine g_bipush dX6_begins_32 (by decide) ?_
      refine g_iconst dX6_begins_34 ?_
      refine f_iast hr hr2 ⟨by omega, by omega⟩ dX6_begins_35 ?_
      refine g_aload0 dX6_begins_36 ?_
      refine g_bipush dX6_begins_37 (by decide) ?_
      refine g_iconst dX6_begins_39 ?_
      refine f_iast hr hr2 ⟨by omega, by omega⟩ dX6_begins_40 ?_
      refine g_return rfl dX6_begins_41 ?_
      exact FO.ret rfl
    · refine g_aload0 dX6_begins_8 ?_
      refine g_iload1 dX6_begins_9 ?_
      refine g_iconst dX6_begins_10 ?_
      refine f_iast hr hr2 ⟨by omega, by omega⟩ dX6_begins_11 ?_
      refine g_iinc1 dX6_begins_12 rfl (by decide) ?_
      refine g_goto (tgt := 2) dX6_begins_15 rfl ?_
      rw [zrS_s]
      exact ih (by omega) _ (by omega)
  refine g_iconst dX6_begins_0 ?_
  refine g_istore1 dX6_begins_1 rfl (by decide) ?_
  have h0 := loop 0 (by decide) _ rfl
  rw [zrS_0] at h0
  exact h0
def LmA (σ τ : sT) : Prop := (∀ a, a ≠ 92 → a ≠ 94 → a ≠ 106 → a ≠ 93 → τ a = σ a) ∧ ∀ j, j ≠ 5 → j ≠ 6 → j < 15 ∨ 22 < j → τ 92 j = σ 92 j
def LmF (σ : sT) (e : Int × Nat × Int) (τ : sT) : Prop := LmA σ τ ∧ τ 92 5 = σ 92 5 ∧ τ 93 = σ 93 ∧ τ 92 6 = 0 ∧ τ 92 15 = 0 ∧ τ 92 20 = e.1 ∧ τ 92 21 = e.2.2 ∧ 1 ≤ e.1 ∧ e.1 ≤ 4
def LmS (σ : sT) (d : Int → Int) (τ : sT) : Prop := LmA σ τ ∧ τ 92 5 = 0 ∧ Rw (τ 93) d ∧ τ 92 6 = 0 ∧ τ 92 15 = 0 ∧ τ 92 20 = 0 ∧ τ 92 21 = -1 ∧ SOK 0 d
def ldM (σ : sT) : sT := bgM (up (up (up (up (up σ 92 6 0) 92 16 0) 92 18 0) 92 19 0) 92 22 0) 94
theorem ldM_p {N : Nat} : PSm (up σ 92 6 0) N 0 (bgR 0 0 0, 0) (ldM σ) := by
  unfold ldM
  refine ⟨⟨fun a a0 a1 a2 => ?_, fun j a b c d e => ?_⟩, ?_, ?_, ?_, ?_, bgM_r, Nat.zero_le _⟩
  · rw [bgM_n a1, up_n a0, up_n a0, up_n a0, up_n a0]
  · rw [bgM_n (by decide), up_ne (fun z => e z.2), up_ne (fun z => d z.2), up_ne (fun z => c z.2), up_ne (fun z => a z.2)]
  · rw [bgM_n (by decide), up_ne (by decide), up_ne (by decide), up_eq]
  · rw [bgM_n (by decide), up_ne (by decide), up_eq]
  · rw [bgM_n (by decide), up_eq]
  · rw [bgM_n (by decide), up_ne (by decide), up_ne (by decide), up_ne (by decide), up_eq]; rfl
theorem load_mf {N : Nat} (hT : TX (σ 105) N) (hln : σ 92 15 = (N : Int)) {e : Int × Nat × Int} (hr : rAll (σ 105) N = .inl e) : Fn g zX6_load 0 0 [.ref 92] σ l (fun o τ l' => l' = l ∧ o = .inl (some (iv (-100 - (e.2.1 : Int)))) ∧ LmF σ e τ) := by
  have hT1 : TX (up σ 92 6 0 105) N := by rw [up_n (by decide)]; exact hT
  have hln1 : up σ 92 6 0 92 15 = (N : Int) := by rw [up_ne (by decide)]; exact hln
  have hrd := reads_m (g := g) (l := l) hT1 hln1 (ldM_p (σ := σ) (N := N))
  rw [show up σ 92 6 0 105 = σ 105 from up_n (by decide), hr] at hrd
  have hrf : Fu g zX6_reads 0 0 [.ref 92] (ldM σ) l (fun ρ l' => l' = l ∧ RdA (up σ 92 6 0) e ρ) := Fn.mono hrd (fun o ρ l' k => ⟨k.2.1, k.1, k.2.2⟩)
  refine Fn.of [some (.ref 92)] rfl (by decide) (Nat.le_of_ble_eq_true rfl) rfl ?_
  refine g_aload0 dX6_load_0 ?_
  refine g_iconst dX6_load_1 ?_
  refine f_puti (J := 6) rfl (by decide) rfl rfl fl_X6_66 rfl (fun _ _ _ h => by cases h; rfl) dX6_load_2 ?_
  refine g_aload0 dX6_load_5 ?_
  refine g_iconst dX6_load_6 ?_
  refine f_puti (J := 16) rfl (by decide) rfl rfl fl_X6_199 rfl (fun _ _ _ h => by cases h; rfl) dX6_load_7 ?_
  refine g_aload0 dX6_load_10 ?_
  refine g_iconst dX6_load_11 ?_
  refine f_puti (J := 18) rfl (by decide) rfl rfl fl_X6_193 rfl (fun _ _ _ h => by cases h; rfl) dX6_load_12 ?_
  refine g_aload0 dX6_load_15 ?_
  refine g_iconst dX6_load_16 ?_
  refine f_puti (J := 19) rfl (by decide) rfl rfl fl_X6_196 rfl (fun _ _ _ h => by cases h; rfl) dX6_load_17 ?_
  refine g_aload0 dX6_load_20 ?_
  refine g_iconst dX6_load_21 ?_
  refine f_puti (J := 22) rfl (by decide) rfl rfl fl_X6_253 rfl (fun _ _ _ h => by cases h; rfl) dX6_load_22 ?_
  refine g_aload0 dX6_load_25 ?_
  refine f_getr (r := 94) rfl (by decide) rfl rfl fl_X6_13 dX6_load_26 ?_
  refine f_cS1d (begins_m rfl (by decide) (by show ((67 : Nat) : Int) ≤ ((67 : Nat) : Int); omega)) oY_X6_begins oT_X6_begins lk_X6_62 rfl dX6_load_29 rfl (Or.inl rfl) ?_
  refine g_aload0 dX6_load_32 ?_
  refine f_cV0m (hrf) rfl (by decide) rfl oY_X6_reads oI_X6_reads lk_X6_277 rfl dX6_load_33 (by omega) (by omega) rfl (Or.inl rfl) (fun σ33 l33 h33 => ?_)
  have el33 := h33.1
  subst el33
  have K1 : PFm (up σ 92 6 0) e.2.2 (e.1, e.2.1) σ33 := h33.2
  have he := K1.2.2.2.2
  have he1 : σ33 92 18 = e.1 := K1.2.1
  have he2 : σ33 92 19 = (e.2.1 : Int) := K1.2.2.1
  have he3 : σ33 92 22 = e.2.2 := K1.2.2.2.1
  simp only at he
  refine g_aload0 dX6_load_36 ?_
  refine g_iconst dX6_load_37 ?_
  refine f_puti (J := 15) rfl (by decide) rfl rfl fl_X6_186 rfl (fun _ _ _ h => by cases h; rfl) dX6_load_38 ?_
  refine g_aload0 dX6_load_41 ?_
  refine g_aload0 dX6_load_42 ?_
  refine f_geti (J := 18) rfl (by decide) rfl rfl fl_X6_193 dX6_load_43 ?_
  rw [up_ne (by decide), he1]
  refine f_puti (J := 20) rfl (by decide) rfl rfl fl_X6_280 rfl (fun _ _ _ h => by cases h; rfl) dX6_load_46 ?_
  refine g_aload0 dX6_load_49 ?_
  have hf1 := isFine_m (g := g) (l := l33) (σ := up (up σ33 92 15 0) 92 20 e.1) (e := e.1) (by rw [up_ne (by decide), up_ne (by decide)]; exact he1) ⟨by omega, by omega⟩
  rw [bvF (by omega)] at hf1
  refine g_aload0 dX6_load_50 ?_
  refine f_cV0w (hf1) rfl (by decide) rfl oY_X6_isFine oI_X6_isFine lk_X6_230 rfl dX6_load_51 rfl (Or.inl rfl) ?_
  refine g_if_eq ⟨by decide, by decide⟩ (tgt := 61) dX6_load_54 rfl (fun h54 => ?_) (fun h54 => absurd h54 (by decide))
  refine g_aload0 dX6_load_61 ?_
  refine f_geti (J := 22) rfl (by decide) rfl rfl fl_X6_253 dX6_load_62 ?_
  rw [up_ne (by decide), up_ne (by decide), he3]
  refine f_puti (J := 21) rfl (by decide) rfl rfl fl_X6_52 rfl (fun _ _ _ h => by cases h; rfl) dX6_load_65 ?_
  have hf2 := isFine_m (g := g) (l := l33) (σ := up (up (up σ33 92 15 0) 92 20 e.1) 92 21 e.2.2) (e := e.1) (by rw [up_ne (by decide), up_ne (by decide), up_ne (by decide)]; exact he1) ⟨by omega, by omega⟩
  rw [bvF (by omega)] at hf2
  refine g_aload0 dX6_load_68 ?_
  refine f_cV0w (hf2) rfl (by decide) rfl oY_X6_isFine oI_X6_isFine lk_X6_230 rfl dX6_load_69 rfl (Or.inl rfl) ?_
  refine g_if_ne ⟨by decide, by decide⟩ (tgt := 83) dX6_load_72 rfl (fun h72 => absurd h72 (by decide)) (fun h72 => ?_)
  refine g_bipush dX6_load_75 (by decide) ?_
  refine g_aload0 dX6_load_77 ?_
  refine f_geti (J := 19) rfl (by decide) rfl rfl fl_X6_196 dX6_load_78 ?_
  rw [up_ne (by decide), up_ne (by decide), up_ne (by decide), he2]
  refine g_isub dX6_load_81 ?_
  refine g_iretI rfl dX6_load_82 ?_
  refine fn_ret ⟨rfl, rfl, ⟨fun a a0 a1 a2 a3 => ?_, fun j j5 j6 hj => ?_⟩, ?_, ?_, ?_, ?_, ?_, up_eq, he⟩
  · rw [up_n a0, up_n a0, up_n a0]; exact (K1.1.1 a a0 a1 a2).trans (up_n a0)
  · rw [up_ne (fun z => by omega), up_ne (fun z => by omega), up_ne (fun z => by omega)]; exact (K1.1.2 j (by omega) (by omega) (by omega) (by omega) (by omega)).trans (up_ne (fun z => j6 z.2))
  · rw [up_ne (by decide), up_ne (by decide), up_ne (by decide)]; exact (K1.1.2 5 (by decide) (by decide) (by decide) (by decide) (by decide)).trans (up_ne (by decide))
  · rw [up_n (by decide), up_n (by decide), up_n (by decide)]; exact (K1.1.1 93 (by decide) (by decide) (by decide)).trans (up_n (by decide))
  · rw [up_ne (by decide), up_ne (by decide), up_ne (by decide)]; exact (K1.1.2 6 (by decide) (by decide) (by decide) (by decide) (by decide)).trans up_eq
  · rw [up_ne (by decide), up_ne (by decide), up_eq]
  · rw [up_ne (by decide), up_eq]
theorem load_my {N : Nat} (hT : TX (σ 105) N) (hln : σ 92 15 = (N : Int)) {d : Int → Int} (hr : rAll (σ 105) N = .inr d) : Fn g zX6_load 0 0 [.ref 92] σ l (fun o τ l' => l' = l ∧ o = .inl (some (iv (d 9))) ∧ LmS σ d τ) := by
  have hT1 : TX (up σ 92 6 0 105) N := by rw [up_n (by decide)]; exact hT
  have hln1 : up σ 92 6 0 92 15 = (N : Int) := by rw [up_ne (by decide)]; exact hln
  have hrd := reads_m (g := g) (l := l) hT1 hln1 (ldM_p (σ := σ) (N := N))
  rw [show up σ 92 6 0 105 = σ 105 from up_n (by decide), hr] at hrd
  have hrf : Fu g zX6_reads 0 0 [.ref 92] (ldM σ) l (fun ρ l' => l' = l ∧ RdB (up σ 92 6 0) N d ρ) := Fn.mono hrd (fun o ρ l' k => ⟨k.2.1, k.1, k.2.2⟩)
  refine Fn.of [some (.ref 92)] rfl (by decide) (Nat.le_of_ble_eq_true rfl) rfl ?_
  refine g_aload0 dX6_load_0 ?_
  refine g_iconst dX6_load_1 ?_
  refine f_puti (J := 6) rfl (by decide) rfl rfl fl_X6_66 rfl (fun _ _ _ h => by cases h; rfl) dX6_load_2 ?_
  refine g_aload0 dX6_load_5 ?_
  refine g_iconst dX6_load_6 ?_
  refine f_puti (J := 16) rfl (by decide) rfl rfl fl_X6_199 rfl (fun _ _ _ h => by cases h; rfl) dX6_load_7 ?_
  refine g_aload0 dX6_load_10 ?_
  refine g_iconst dX6_load_11 ?_
  refine f_puti (J := 18) rfl (by decide) rfl rfl fl_X6_193 rfl (fun _ _ _ h => by cases h; rfl) dX6_load_12 ?_
  refine g_aload0 dX6_load_15 ?_
  refine g_iconst dX6_load_16 ?_
  refine f_puti (J := 19) rfl (by decide) rfl rfl fl_X6_196 rfl (fun _ _ _ h => by cases h; rfl) dX6_load_17 ?_
  refine g_aload0 dX6_load_20 ?_
  refine g_iconst dX6_load_21 ?_
  refine f_puti (J := 22) rfl (by decide) rfl rfl fl_X6_253 rfl (fun _ _ _ h => by cases h; rfl) dX6_load_22 ?_
  refine g_aload0 dX6_load_25 ?_
  refine f_getr (r := 94) rfl (by decide) rfl rfl fl_X6_13 dX6_load_26 ?_
  refine f_cS1d (begins_m rfl (by decide) (by show ((67 : Nat) : Int) ≤ ((67 : Nat) : Int); omega)) oY_X6_begins oT_X6_begins lk_X6_62 rfl dX6_load_29 rfl (Or.inl rfl) ?_
  refine g_aload0 dX6_load_32 ?_
  refine f_cV0m (hrf) rfl (by decide) rfl oY_X6_reads oI_X6_reads lk_X6_277 rfl dX6_load_33 (by omega) (by omega) rfl (Or.inl rfl) (fun σ33 l33 h33 => ?_)
  have el33 := h33.1
  subst el33
  obtain ⟨st, p, K1, hd⟩ := h33.2
  have he1 : σ33 92 18 = 0 := K1.2.1
  have hdr : Rw (σ33 94) d := K1.2.2.2.2.2.1
  refine g_aload0 dX6_load_36 ?_
  refine g_iconst dX6_load_37 ?_
  refine f_puti (J := 15) rfl (by decide) rfl rfl fl_X6_186 rfl (fun _ _ _ h => by cases h; rfl) dX6_load_38 ?_
  refine g_aload0 dX6_load_41 ?_
  refine g_aload0 dX6_load_42 ?_
  refine f_geti (J := 18) rfl (by decide) rfl rfl fl_X6_193 dX6_load_43 ?_
  rw [up_ne (by decide), he1]
  refine f_puti (J := 20) rfl (by decide) rfl rfl fl_X6_280 rfl (fun _ _ _ h => by cases h; rfl) dX6_load_46 ?_
  refine g_aload0 dX6_load_49 ?_
  have hf1 := isFine_m (g := g) (l := l33) (σ := up (up σ33 92 15 0) 92 20 0) (e := 0) (by rw [up_ne (by decide), up_ne (by decide)]; exact he1) ⟨by decide, by decide⟩
  rw [bvT rfl] at hf1
  refine g_aload0 dX6_load_50 ?_
  refine f_cV0w (hf1) rfl (by decide) rfl oY_X6_isFine oI_X6_isFine lk_X6_230 rfl dX6_load_51 rfl (Or.inl rfl) ?_
  refine g_if_eq ⟨by decide, by decide⟩ (tgt := 61) dX6_load_54 rfl (fun h54 => absurd h54 (by decide)) (fun h54 => ?_)
  refine g_iconst dX6_load_57 ?_
  refine g_goto (tgt := 65) dX6_load_58 rfl ?_
  refine f_puti (J := 21) rfl (by decide) rfl rfl fl_X6_52 rfl (fun _ _ _ h => by cases h; rfl) dX6_load_65 ?_
  have hf2 := isFine_m (g := g) (l := l33) (σ := up (up (up σ33 92 15 0) 92 20 0) 92 21 (-1)) (e := 0) (by rw [up_ne (by decide), up_ne (by decide), up_ne (by decide)]; exact he1) ⟨by decide, by decide⟩
  rw [bvT rfl] at hf2
  refine g_aload0 dX6_load_68 ?_
  refine f_cV0w (hf2) rfl (by decide) rfl oY_X6_isFine oI_X6_isFine lk_X6_230 rfl dX6_load_69 rfl (Or.inl rfl) ?_
  refine g_if_ne ⟨by decide, by decide⟩ (tgt := 83) dX6_load_72 rfl (fun h72 => ?_) (fun h72 => absurd h72 (by decide))
  refine g_aload0 dX6_load_83 ?_
  refine f_getr (r := 94) rfl (by decide) rfl rfl fl_X6_13 dX6_load_84 ?_
  refine g_iconst dX6_load_87 ?_
  refine g_aload0 dX6_load_88 ?_
  refine f_getr (r := 93) rfl (by decide) rfl rfl fl_X6_7 dX6_load_89 ?_
  refine g_iconst dX6_load_92 ?_
  refine f_cS4d (copies_m rfl (by decide) rfl (by decide) (by decide) ⟨by decide, by show (0 : Int) + 67 ≤ ((67 : Nat) : Int); omega⟩ ⟨by decide, by show (0 : Int) + 67 ≤ ((67 : Nat) : Int); omega⟩) oY_X6_copies oT_X6_copies lk_X6_72 rfl dX6_load_93 rfl (Or.inl rfl) ?_
  refine g_aload0 dX6_load_96 ?_
  refine g_iconst dX6_load_97 ?_
  refine f_puti (J := 5) rfl (by decide) rfl rfl fl_X6_69 rfl (fun _ _ _ h => by cases h; rfl) dX6_load_98 ?_
  refine g_aload0 dX6_load_101 ?_
  refine f_getr (r := 93) rfl (by decide) rfl rfl fl_X6_7 dX6_load_102 ?_
  obtain ⟨ω, hω⟩ : ∃ ω : sT, ω = up (cpM (up (up (up σ33 92 15 0) 92 20 0) 92 21 (-1)) 94 0 93 0 67) 92 5 0 := ⟨_, rfl⟩
  rw [← hω]
  have hw93 : Rw (ω 93) d := by
    intro j j0 j1
    rw [hω, up_n (by decide), cpM_in ⟨j0, by omega⟩, up_n (by decide), up_n (by decide), up_n (by decide), show j - 0 + 0 = j from by omega]
    exact hdr j j0 j1
  have hwo : ∀ a, a ≠ 93 → a ≠ 92 → ω a = σ33 a := fun a a3 a2 => by rw [hω, up_n a2, cpM_n a3, up_n a2, up_n a2, up_n a2]
  have hwj : ∀ j, j ≠ 5 → ω 92 j = up (up (up σ33 92 15 0) 92 20 0) 92 21 (-1) 92 j := fun j j5 => by rw [hω, up_ne (fun z => j5 z.2), cpM_n (by decide)]
  have hw5 : ω 92 5 = 0 := by rw [hω, up_eq]
  refine g_bipush dX6_load_105 (by decide) ?_
  refine f_iald rfl (by decide) ⟨by omega, by show _ < ((67 : Nat) : Int); omega⟩ dX6_load_107 ?_
  rw [hw93 9 (by decide) (by decide)]
  refine g_iretI rfl dX6_load_108 ?_
  refine fn_ret ⟨rfl, rfl, ⟨fun a a0 a1 a2 a3 => ?_, fun j j5 j6 hj => ?_⟩, hw5, hw93, ?_, ?_, ?_, ?_, hd⟩
  · rw [hwo a a3 a0]; exact (K1.1.1 a a0 a1 a2).trans (up_n a0)
  · rw [hwj j j5, up_ne (fun z => by omega), up_ne (fun z => by omega), up_ne (fun z => by omega)]; exact (K1.1.2 j (by omega) (by omega) (by omega) (by omega) (by omega)).trans (up_ne (fun z => j6 z.2))
  · rw [hwj 6 (by decide), up_ne (by decide), up_ne (by decide), up_ne (by decide)]; exact (K1.1.2 6 (by decide) (by decide) (by decide) (by decide) (by decide)).trans up_eq
  · rw [hwj 15 (by decide), up_ne (by decide), up_ne (by decide), up_eq]
  · rw [hwj 20 (by decide), up_ne (by decide), up_eq]
  · rw [hwj 21 (by decide), up_eq]
theorem loadError_m  : FX g zX6_loadError [.ref 92] σ l (iv (σ 92 20)) (up σ 92 6 0) := by
  refine Fn.of [some (.ref 92)] rfl (by decide) (Nat.le_of_ble_eq_true rfl) rfl ?_
  refine g_aload0 dX6_loadError_0 ?_
  refine g_iconst dX6_loadError_1 ?_
  refine f_puti (J := 6) rfl (by decide) rfl rfl fl_X6_66 rfl (fun _ _ _ h => by cases h; rfl) dX6_loadError_2 ?_
  refine g_aload0 dX6_loadError_5 ?_
  refine f_geti (J := 20) rfl (by decide) rfl rfl fl_X6_280 dX6_loadError_6 ?_
  rw [up_ne (by decide)]
  refine g_iretI rfl dX6_loadError_9 ?_
  exact FX.ret rfl rfl
theorem loadStatement_m  : FX g zX6_loadStatement [.ref 92] σ l (iv (σ 92 21)) (up σ 92 6 0) := by
  refine Fn.of [some (.ref 92)] rfl (by decide) (Nat.le_of_ble_eq_true rfl) rfl ?_
  refine g_aload0 dX6_loadStatement_0 ?_
  refine g_iconst dX6_loadStatement_1 ?_
  refine f_puti (J := 6) rfl (by decide) rfl rfl fl_X6_66 rfl (fun _ _ _ h => by cases h; rfl) dX6_loadStatement_2 ?_
  refine g_aload0 dX6_loadStatement_5 ?_
  refine f_geti (J := 21) rfl (by decide) rfl rfl fl_X6_52 dX6_loadStatement_6 ?_
  rw [up_ne (by decide)]
  refine g_iretI rfl dX6_loadStatement_9 ?_
  exact FX.ret rfl rfl
theorem thrown_m {k : Int} (h : σ 92 6 = k) : Fw g zX6_thrown [.ref 92] σ l (iv k) := by
  refine Fn.of [some (.ref 92)] rfl (by decide) (Nat.le_of_ble_eq_true rfl) rfl ?_
  refine g_aload0 dX6_thrown_0 ?_
  refine f_geti (J := 6) rfl (by decide) rfl rfl fl_X6_66 dX6_thrown_1 ?_
  rw [h]
  refine g_iretI rfl dX6_thrown_4 ?_
  exact Fw.ret rfl
def tmS (σ : sT) (T : Int → Int) (N : Int) : sT := fun a j => if a = 105 then T j else if a = 92 ∧ j = 15 then N else σ a j
theorem tmS_n {a : Nat} {T : Int → Int} {N : Int} (h : a ≠ 105) (h9 : a ≠ 92) : tmS σ T N a = σ a := by funext j; unfold tmS; rw [if_neg h, if_neg (fun z => h9 z.1)]
theorem tmS_105 {T : Int → Int} {N : Int} : tmS σ T N 105 = T := by funext j; unfold tmS; rw [if_pos rfl]
theorem tmS_15 {T : Int → Int} {N : Int} : tmS σ T N 92 15 = N := by unfold tmS; rw [if_neg (by decide), if_pos ⟨rfl, rfl⟩]
theorem tmS_92 {T : Int → Int} {N j : Int} (h : j ≠ 15) : tmS σ T N 92 j = σ 92 j := by unfold tmS; rw [if_neg (by decide), if_neg (fun z => h z.2)]
theorem tmS_id {T : Int → Int} {N : Int} (h10 : σ 105 = T) (h1 : σ 92 15 = N) : tmS σ T N = σ := by
  funext a j
  unfold tmS
  by_cases c : a = 105
  · rw [if_pos c, c, h10]
  · rw [if_neg c]
    by_cases c9 : a = 92 ∧ j = 15
    · rw [if_pos c9, c9.1, c9.2, h1]
    · rw [if_neg c9]
theorem tmS_s {T : Int → Int} {N x : Int} : up (up (tmS σ T N) 105 N x) 92 15 (N + 1) = tmS σ (su T N x) (N + 1) := by
  funext a j
  unfold up tmS su
  by_cases c9 : a = 92 ∧ j = 15
  · rw [if_pos c9, if_neg (by omega), if_pos c9]
  · rw [if_neg c9]
    by_cases c : a = 105
    · subst c
      by_cases e : j = N
      · rw [if_pos ⟨rfl, e⟩, if_pos rfl, if_pos e]
      · rw [if_neg (fun z => e z.2), if_pos rfl, if_pos rfl, if_neg e]
    · rw [if_neg (fun z => c z.1), if_neg c, if_neg c9, if_neg c, if_neg c9]
theorem bytesIn_m {v : Int64} : Fw g zX6_bytesIn [.long v] σ l (iv (nzB v 8)) := by
  refine Fn.of [some (.long v), none, none, none] rfl (by decide) (Nat.le_of_ble_eq_true rfl) rfl ?_
  have loop : ∀ q : Nat, q ≤ 8 → ∀ (sh x : Int), sh = 56 - 8 * (q : Int) → x = (nzB v q : Int) → FW g zX6_bytesIn 0 0 (fun o σ' l' => o = .inl (some (iv (nzB v 8))) ∧ σ' = σ ∧ l' = l) 5 [some (.long v), none, some (iv x), some (iv sh)] [] σ l := by
    refine loopUp _ (fun q hq2 ih sh x hsh hx => ?_)
    subst hsh
    refine g_iload3 dX6_bytesIn_5 ?_
    refine g_if_lt ⟨by omega, by omega⟩ (tgt := 35) dX6_bytesIn_6 rfl (fun h6 => ?_) (fun h6 => ?_)
    · refine g_iload2 dX6_bytesIn_35 ?_
      refine g_iretI rfl dX6_bytesIn_36 ?_
      have e9 : q = 8 := by omega
      subst e9
      exact Fw.ret (by rw [hx])
    · have hb := TB_rng v (j := q) (by omega)
      refine g_iload2 dX6_bytesIn_9 ?_
      refine g_lload0 dX6_bytesIn_10 ?_
      refine g_iload3 dX6_bytesIn_11 ?_
      refine g_lshrR dX6_bytesIn_12 ?_
      refine g_ldc2 (v := Int64.ofInt (255)) kl_X6_184 dX6_bytesIn_13 ?_
      refine g_landR dX6_bytesIn_16 ?_
      rw [show (v >>> ((Int32.ofInt (56 - 8 * (q : Int))).toInt64 &&& 63)) &&& Int64.ofInt 255 = Int64.ofInt (TB v q) from (rb_eq v (show q < 8 by omega)).trans (TB_of v q)]
      refine g_lconst0 dX6_bytesIn_17 ?_
      refine g_lcmp ⟨by omega, by omega⟩ ⟨by decide, by decide⟩ dX6_bytesIn_18 ?_
      refine g_if_eq_sg (tgt := 26) dX6_bytesIn_19 rfl (fun h19 => ?_) (fun h19 => ?_)
      · refine g_iconst dX6_bytesIn_26 ?_
        refine g_iadd dX6_bytesIn_27 ?_
        refine g_istore2 dX6_bytesIn_28 rfl (by decide) ?_
        refine g_iinc3 dX6_bytesIn_29 rfl (by decide) ?_
        refine g_goto (tgt := 5) dX6_bytesIn_32 rfl ?_
        first
          | exact ih (by omega) _ _ (by push_cast; omega) (by rw [hx, nzB, if_neg h19]; push_cast; rfl)
          | exact ih (by omega) _ _ (by push_cast; omega) (by rw [hx, nzB, if_pos h19]; push_cast; rfl)
      · refine g_iconst dX6_bytesIn_22 ?_
        refine g_goto (tgt := 27) dX6_bytesIn_23 rfl ?_
        refine g_iadd dX6_bytesIn_27 ?_
        refine g_istore2 dX6_bytesIn_28 rfl (by decide) ?_
        refine g_iinc3 dX6_bytesIn_29 rfl (by decide) ?_
        refine g_goto (tgt := 5) dX6_bytesIn_32 rfl ?_
        first
          | exact ih (by omega) _ _ (by push_cast; omega) (by rw [hx, nzB, if_neg h19]; push_cast; rfl)
          | exact ih (by omega) _ _ (by push_cast; omega) (by rw [hx, nzB, if_pos h19]; push_cast; rfl)
  refine g_iconst dX6_bytesIn_0 ?_
  refine g_istore2 dX6_bytesIn_1 rfl (by decide) ?_
  refine g_bipush dX6_bytesIn_2 (by decide) ?_
  refine g_istore3 dX6_bytesIn_4 rfl (by decide) ?_
  exact loop 0 (Nat.zero_le _) _ _ rfl rfl
theorem append_m {T : Int → Int} {N : Nat} {v : Int64} (hT : TX T N) (h1 : σ 92 15 = (N : Int)) (h10 : σ 105 = T) : Fn g zX6_append 0 0 [.ref 92, .long v] σ l (fun o τ l' => l' = l ∧ if N + nzB v 8 ≤ 400 then o = .inl (some (iv ((N + nzB v 8 : Nat) : Int))) ∧ τ = tmS (up σ 92 6 0) (apT T N v 8) ((N + nzB v 8 : Nat) : Int) else o = .inl (some (iv (-2))) ∧ τ = up σ 92 6 0) := by
  have hN := hT.1
  have hz8 := nzB_le v 8
  have h1b : up σ 92 6 0 92 15 = (N : Int) := (up_ne (by decide)).trans h1
  have h10b : up σ 92 6 0 105 = T := (up_n (by decide)).trans h10
  refine Fn.of [some (.ref 92), some (.long v), none, none, none] rfl (by decide) (Nat.le_of_ble_eq_true rfl) rfl ?_
  refine g_aload0 dX6_append_0 ?_
  refine g_iconst dX6_append_1 ?_
  refine f_puti (J := 6) rfl (by decide) rfl rfl fl_X6_66 rfl (fun _ _ _ h => by cases h; rfl) dX6_append_2 ?_
  refine g_aload0 dX6_append_5 ?_
  refine f_geti (J := 15) rfl (by decide) rfl rfl fl_X6_186 dX6_append_6 ?_
  rw [h1b]
  refine g_lload1 dX6_append_9 ?_
  refine f_cS1w (bytesIn_m) oY_X6_bytesIn oT_X6_bytesIn lk_X6_189 rfl dX6_append_10 rfl (Or.inl rfl) ?_
  refine g_iadd dX6_append_13 ?_
  refine g_sipush dX6_append_14 (by decide) ?_
  refine g_icmp_le ⟨by omega, by omega⟩ ⟨by decide, by decide⟩ (tgt := 23) dX6_append_17 rfl (fun h17 => ?_) (fun h17 => ?_)
  · have hfit : N + nzB v 8 ≤ 400 := by omega
    have loop : ∀ q : Nat, q ≤ 8 → ∀ (sh : Int) (u4 : Option Value), sh = 56 - 8 * (q : Int) → FW g zX6_append 0 0 (fun o τ l' => l' = l ∧ if N + nzB v 8 ≤ 400 then o = .inl (some (iv ((N + nzB v 8 : Nat) : Int))) ∧ τ = tmS (up σ 92 6 0) (apT T N v 8) ((N + nzB v 8 : Nat) : Int) else o = .inl (some (iv (-2))) ∧ τ = up σ 92 6 0) 26 [some (.ref 92), some (.long v), none, some (iv sh), u4] [] (tmS (up σ 92 6 0) (apT T N v q) ((N + nzB v q : Nat) : Int)) l := by
      refine loopUp _ (fun q hq2 ih sh u4 hsh => ?_)
      subst hsh
      refine g_iload3 dX6_append_26 ?_
      refine g_if_lt ⟨by omega, by omega⟩ (tgt := 72) dX6_append_27 rfl (fun h27 => ?_) (fun h27 => ?_)
      · refine g_aload0 dX6_append_72 ?_
        refine f_geti (J := 15) rfl (by decide) rfl rfl fl_X6_186 dX6_append_73 ?_
        refine g_iretI rfl dX6_append_76 ?_
        have e9 : q = 8 := by omega
        subst e9
        exact fn_ret ⟨rfl, by rw [if_pos hfit]; exact ⟨rfl, rfl⟩⟩
      · have hb := TB_rng v (j := q) (by omega)
        have hm := nzB_mono v (show q + 1 ≤ 8 by omega)
        have hm0 := nzB_mono v (show q ≤ q + 1 by omega)
        refine g_lload1 dX6_append_30 ?_
        refine g_iload3 dX6_append_31 ?_
        refine g_lshrR dX6_append_32 ?_
        refine g_ldc2 (v := Int64.ofInt (255)) kl_X6_184 dX6_append_33 ?_
        refine g_landR dX6_append_36 ?_
        rw [show (v >>> ((Int32.ofInt (56 - 8 * (q : Int))).toInt64 &&& 63)) &&& Int64.ofInt 255 = Int64.ofInt (TB v q) from (rb_eq v (show q < 8 by omega)).trans (TB_of v q)]
        refine g_l2i dX6_append_37 ?_
        refine g_istore4 dX6_append_38 rfl (by decide) ?_
        refine g_iload4 dX6_append_40 ?_
        refine g_if_eq ⟨by omega, by omega⟩ (tgt := 66) dX6_append_42 rfl (fun h42 => ?_) (fun h42 => ?_)
        · refine g_iinc3 dX6_append_66 rfl (by decide) ?_
          refine g_goto (tgt := 26) dX6_append_69 rfl ?_
          first
            | (rw [tmS_s, ← hq2, show ((N + nzB v q : Nat) : Int) + 1 = ((N + nzB v (q + 1) : Nat) : Int) from by omega]
               exact ih (by omega) _ _ (by push_cast; omega))
            | (have hq1 : nzB v (q + 1) = nzB v q := by rw [nzB, if_pos h42]; omega
               have hq2 : apT T N v (q + 1) = apT T N v q := by rw [apT, if_pos h42]
               rw [← hq1, ← hq2]
               exact ih (by omega) _ _ (by push_cast; omega))
        · have hq1 : nzB v (q + 1) = nzB v q + 1 := by rw [nzB, if_neg h42]
          have hq2 : apT T N v (q + 1) = su (apT T N v q) ((N + nzB v q : Nat) : Int) (TB v q) := by rw [apT, if_neg h42]
          refine g_aload0 dX6_append_45 ?_
          refine f_getr (r := 105) rfl (by decide) rfl rfl fl_X6_49 dX6_append_46 ?_
          refine g_aload0 dX6_append_49 ?_
          refine f_geti (J := 15) rfl (by decide) rfl rfl fl_X6_186 dX6_append_50 ?_
          rw [tmS_15]
          refine g_iload4 dX6_append_53 ?_
          refine f_iast rfl (by decide) ⟨by omega, by show ((N + nzB v q : Nat) : Int) < ((400 : Nat) : Int); omega⟩ dX6_append_55 ?_
          refine g_aload0 dX6_append_56 ?_
          refine g_dup rfl dX6_append_57 ?_
          refine f_geti (J := 15) rfl (by decide) rfl rfl fl_X6_186 dX6_append_58 ?_
          rw [up_n (by decide), tmS_15]
          refine g_iconst dX6_append_61 ?_
          refine g_iadd dX6_append_62 ?_
          refine f_puti (J := 15) rfl (by decide) rfl rfl fl_X6_186 rfl (fun _ _ _ h => by cases h; rfl) dX6_append_63 ?_
          refine g_iinc3 dX6_append_66 rfl (by decide) ?_
          refine g_goto (tgt := 26) dX6_append_69 rfl ?_
          first
            | (rw [tmS_s, ← hq2, show ((N + nzB v q : Nat) : Int) + 1 = ((N + nzB v (q + 1) : Nat) : Int) from by omega]
               exact ih (by omega) _ _ (by push_cast; omega))
            | (have hq1 : nzB v (q + 1) = nzB v q := by rw [nzB, if_pos h42]; omega
               have hq2 : apT T N v (q + 1) = apT T N v q := by rw [apT, if_pos h42]
               rw [← hq1, ← hq2]
               exact ih (by omega) _ _ (by push_cast; omega))
    refine g_bipush dX6_append_23 (by decide) ?_
    refine g_istore3 dX6_append_25 rfl (by decide) ?_
    have h0 := loop 0 (Nat.zero_le _) 56 none rfl
    rw [show tmS (up σ 92 6 0) (apT T N v 0) ((N + nzB v 0 : Nat) : Int) = up σ 92 6 0 from tmS_id h10b h1b] at h0
    exact h0
  · refine g_bipush dX6_append_20 (by decide) ?_
    refine g_iretI rfl dX6_append_22 ?_
    exact fn_ret ⟨rfl, by rw [if_neg (by omega)]; exact ⟨rfl, rfl⟩⟩
end C90
