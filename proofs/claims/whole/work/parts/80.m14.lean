/-! The model: notes, plays -/
section C80
variable {g : gT} {σ : sT} {l : Nat → Nat}
/-- a stretch of the row, set -/
def rgS (τ : sT) (lo hi : Int) (f : Int → Int) : sT := fun a j => if a = 93 ∧ lo ≤ j ∧ j < hi then f j else τ a j
theorem rg_0 {τ : sT} {lo hi : Int} {f : Int → Int} (h : hi ≤ lo) : rgS τ lo hi f = τ := by
  funext a j
  unfold rgS
  rw [if_neg (fun z => by omega)]
theorem rg_n {τ : sT} {lo hi : Int} {f : Int → Int} {a : Nat} (h : a ≠ 93) : rgS τ lo hi f a = τ a := by
  funext j
  unfold rgS
  rw [if_neg (fun z => h z.1)]
theorem rg_in {τ : sT} {lo hi j : Int} {f : Int → Int} (h : lo ≤ j ∧ j < hi) : rgS τ lo hi f 93 j = f j := by
  unfold rgS
  rw [if_pos ⟨rfl, h⟩]
theorem rg_out {τ : sT} {lo hi j : Int} {f : Int → Int} {a : Nat} (h : ¬ (lo ≤ j ∧ j < hi)) : rgS τ lo hi f a j = τ a j := by
  unfold rgS
  rw [if_neg (fun z => h z.2)]
theorem rg_s {τ : sT} {lo hi v : Int} {f : Int → Int} (h : lo ≤ hi) (hv : v = f hi) : up (rgS τ lo hi f) 93 hi v = rgS τ lo (hi + 1) f := by
  subst hv
  funext a j
  by_cases c : a = 93 ∧ j = hi
  · obtain ⟨rfl, rfl⟩ := c
    rw [up_eq, rg_in (by constructor <;> omega)]
  · rw [up_ne c]
    unfold rgS
    by_cases d : a = 93 ∧ lo ≤ j ∧ j < hi
    · rw [if_pos d, if_pos ⟨d.1, d.2.1, by omega⟩]
    · rw [if_neg d, if_neg (fun z => d ⟨z.1, z.2.1, by
        have : j ≠ hi := fun y => c ⟨z.1, y⟩
        omega⟩)]
theorem rg_d {τ : sT} {lo hi v : Int} {f : Int → Int} (h : lo ≤ hi) (hv : v = f (lo - 1)) : up (rgS τ lo hi f) 93 (lo - 1) v = rgS τ (lo - 1) hi f := by
  subst hv
  funext a j
  by_cases c : a = 93 ∧ j = lo - 1
  · obtain ⟨rfl, rfl⟩ := c
    rw [up_eq, rg_in (by constructor <;> omega)]
  · rw [up_ne c]
    unfold rgS
    by_cases d : a = 93 ∧ lo ≤ j ∧ j < hi
    · rw [if_pos d, if_pos ⟨d.1, by omega, d.2.2⟩]
    · rw [if_neg d, if_neg (fun z => d ⟨z.1, by
        have : j ≠ lo - 1 := fun y => c ⟨z.1, y⟩
        omega, z.2.2⟩)]
def rfS (lo hi : Int) (f t : Int → Int) : Int → Int := fun j => if lo ≤ j ∧ j < hi then f j else t j
theorem MS.rg {τ : sT} {t : Int → Int} {n : Nat} {P : Nat → Int → Int} (h : MS σ τ t n P) (lo hi : Int) (f : Int → Int) : MS σ (rgS τ lo hi f) (rfS lo hi f t) n P := by
  refine ⟨fun a a0 a1 a2 a3 => by rw [rg_n a1]; exact h.1 a a0 a1 a2 a3, fun j h5 h6 => by rw [rg_n (by decide)]; exact h.2.1 j h5 h6, by rw [rg_n (by decide)]; exact h.2.2.1, fun j j0 j1 => ?_, fun j hj => ?_⟩
  · unfold rfS
    by_cases e : lo ≤ j ∧ j < hi
    · rw [rg_in e, if_pos e]
    · rw [rg_out e, if_neg e]; exact h.2.2.2.1 j j0 j1
  · intro i i0 i1
    show rgS τ lo hi f 95 _ = _
    rw [rg_n (by decide)]
    exact h.2.2.2.2 j hj i i0 i1
theorem dr_row {s f : Int → Int} {k : Nat} {N a v : Int} (hN : N = s 9) (hk : (k : Int) < N) (hfe : ∀ j, f j = s (j + 1)) (hv : v = drP s k) : Rw (su (su (su (su (rfS (27 + (k : Int)) (27 + (N - 1)) f s) 9 (N - 1)) (27 + (N - 1)) 0) 12 a) 12 v) (drS s k) := by
  intro j j0 j1
  unfold su drS rfS
  by_cases e9 : j = 9
  · simp only [if_pos e9, if_neg (show ¬ j = 12 by omega), if_neg (show ¬ j = 27 + (N - 1) by omega)]
    rw [hN]
  · by_cases e12 : j = 12
    · simp only [if_pos e12, if_neg e9, hv]
    · by_cases e26 : j = 26 + s 9
      · simp only [if_neg e12, if_neg e9, if_pos (show j = 27 + (N - 1) by omega), if_neg (show ¬ (27 + (k : Int) ≤ j ∧ j < 26 + s 9) by omega), if_pos e26]
      · by_cases er : 27 + (k : Int) ≤ j ∧ j < 26 + s 9
        · simp only [if_neg e12, if_neg e9, if_neg (show ¬ j = 27 + (N - 1) by omega), if_pos (show 27 + (k : Int) ≤ j ∧ j < 27 + (N - 1) by omega), if_pos er, hfe]
        · simp only [if_neg e12, if_neg e9, if_neg e26, if_neg (show ¬ j = 27 + (N - 1) by omega), if_neg (show ¬ (27 + (k : Int) ≤ j ∧ j < 27 + (N - 1)) by omega), if_neg er]
theorem dropNote_q {B : Int} {s : Int → Int} (ho : SOK B s) (hs : σ 93 = s) {n : Nat} (hn : σ 92 5 = (n : Int)) (h8 : n ≤ 8) {k : Nat} (hk : k < wN s) : Ms g zX6_dropNote [.ref 92, iv (k : Int)] σ l (iv (s 9 - 1)) (drS s (k : Int)) (nP n) (pP n s (pr σ)) := by
  have hs0 : up σ 92 6 0 93 = s := (up_n (by decide)).trans hs
  have hM0 : Md σ (up σ 92 6 0) := md_th (Md.refl σ)
  have he0 : up σ 92 6 0 92 6 = 0 := up_eq
  have hp3 := p3_le ho.h7
  have hp0 := p3_pos (wH s)
  have hn40 := ho.n40
  have hnI := ho.nI
  have hH7 := ho.h7
  have hHI := ho.hI
  have hb4 := ho.halves
  have hb5 := ho.crosses
  have hpl := ho.place
  obtain ⟨f, hf⟩ : ∃ f : Int → Int, f = fun j => s (j + 1) := ⟨_, rfl⟩
  have hfe : ∀ j, f j = s (j + 1) := fun j => by rw [hf]
  obtain ⟨N, hN⟩ : ∃ N : Int, N = s 9 := ⟨_, rfl⟩
  rw [← hN]
  refine Fn.of [some (.ref 92), some (iv (k : Int)), none] rfl (by decide) (Nat.le_of_ble_eq_true rfl) rfl ?_
  refine g_aload0 dX6_dropNote_0 ?_
  refine g_iload1 dX6_dropNote_1 ?_
  refine f_cV1x (mayNote_y ho hs (by omega) (by omega)) rfl (by decide) rfl oY_X6_mayNote oI_X6_mayNote lk_X6_330 rfl dX6_dropNote_2 rfl (Or.inl rfl) ?_
  refine g_if_ne ⟨by decide, by decide⟩ (tgt := 10) dX6_dropNote_5 rfl (fun h5 => ?_) (fun h5 => absurd h5 (by decide))
  refine g_aload0 dX6_dropNote_10 ?_
  refine f_cV0m (keepsP (B := B) hM0 hs hn h8) rfl (by decide) rfl oY_X6_keeps oI_X6_keeps lk_X6_364 rfl dX6_dropNote_11 (by omega) (by omega) rfl (Or.inl rfl) (fun σ11 l11 h11 => ?_)
  have elk := h11.1
  subst elk
  have hsk := h11.2.1
  have hSk := h11.2.2.1
  have hek : σ11 92 6 = 0 := h11.2.2.2.trans he0
  refine g_iload1 dX6_dropNote_14 ?_
  refine g_istore2 dX6_dropNote_15 rfl (by decide) ?_
  have loop : ∀ q : Nat, q ≤ wN s - 1 → k ≤ q → ∀ (i : Int), i = (q : Int) → FW g zX6_dropNote 0 0 (fun o τ l' => o = .inl (some (iv (N - 1))) ∧ l' = l11 ∧ MS σ τ (drS s (k : Int)) (nP n) (pP n s (pr σ)) ∧ τ 92 6 = 0) 16 [some (.ref 92), some (iv (k : Int)), some (iv i)] [] (rgS σ11 (27 + (k : Int)) (27 + (q : Int)) f) l11 := by
    refine loopUp _ (fun q hq2 ih hkq i hi => ?_)
    subst hi
    have r9 : (rgS σ11 (27 + (k : Int)) (27 + (q : Int)) f) 93 9 = N := by rw [rg_out (fun z => by omega), hsk]; exact hN.symm
    have rq : (rgS σ11 (27 + (k : Int)) (27 + (q : Int)) f) 93 (27 + (q : Int) + 1) = s (27 + (q : Int) + 1) := by rw [rg_out (fun z => by omega), hsk]
    have r12 : (rgS σ11 (27 + (k : Int)) (27 + (q : Int)) f) 93 12 = s 12 := by rw [rg_out (fun z => by omega), hsk]
    refine g_iload2 dX6_dropNote_16 ?_
    refine g_iconst dX6_dropNote_17 ?_
    refine g_iadd dX6_dropNote_18 ?_
    refine g_aload0 dX6_dropNote_19 ?_
    refine f_getr (r := 93) rfl (by decide) rfl rfl fl_X6_7 dX6_dropNote_20 ?_
    refine g_bipush dX6_dropNote_23 (by decide) ?_
    refine f_iald rfl (by decide) ⟨by omega, by show _ < ((67 : Nat) : Int); omega⟩ dX6_dropNote_25 ?_
    rw [r9]
    refine g_icmp_ge ⟨by omega, by omega⟩ ⟨by omega, by omega⟩ (tgt := 55) dX6_dropNote_26 rfl (fun h26 => ?_) (fun h26 => ?_)
    · have eq9 : (q : Int) = N - 1 := by omega
      rw [eq9] at r9 rq r12 ⊢
      refine g_aload0 dX6_dropNote_55 ?_
      refine f_getr (r := 93) rfl (by decide) rfl rfl fl_X6_7 dX6_dropNote_56 ?_
      refine g_bipush dX6_dropNote_59 (by decide) ?_
      refine g_dup2 rfl rfl dX6_dropNote_61 ?_
      refine f_iald rfl (by decide) ⟨by omega, by show _ < ((67 : Nat) : Int); omega⟩ dX6_dropNote_62 ?_
      rw [r9]
      refine g_iconst dX6_dropNote_63 ?_
      refine g_isub dX6_dropNote_64 ?_
      refine f_iast rfl (by decide) ⟨by omega, by show _ < ((67 : Nat) : Int); omega⟩ dX6_dropNote_65 ?_
      refine g_aload0 dX6_dropNote_66 ?_
      refine f_getr (r := 93) rfl (by decide) rfl rfl fl_X6_7 dX6_dropNote_67 ?_
      refine g_bipush dX6_dropNote_70 (by decide) ?_
      refine g_aload0 dX6_dropNote_72 ?_
      refine f_getr (r := 93) rfl (by decide) rfl rfl fl_X6_7 dX6_dropNote_73 ?_
      refine g_bipush dX6_dropNote_76 (by decide) ?_
      refine f_iald rfl (by decide) ⟨by omega, by show _ < ((67 : Nat) : Int); omega⟩ dX6_dropNote_78 ?_
      rw [up_eq]
      refine g_iadd dX6_dropNote_79 ?_
      refine g_iconst dX6_dropNote_80 ?_
      refine f_iast rfl (by decide) ⟨by omega, by show _ < ((67 : Nat) : Int); omega⟩ dX6_dropNote_81 ?_
      refine g_aload0 dX6_dropNote_82 ?_
      refine f_getr (r := 93) rfl (by decide) rfl rfl fl_X6_7 dX6_dropNote_83 ?_
      refine g_bipush dX6_dropNote_86 (by decide) ?_
      refine g_dup2 rfl rfl dX6_dropNote_88 ?_
      refine f_iald rfl (by decide) ⟨by omega, by show _ < ((67 : Nat) : Int); omega⟩ dX6_dropNote_89 ?_
      rw [up_ne (fun z => by omega), up_ne (fun z => by omega), r12]
      refine g_aload0 dX6_dropNote_90 ?_
      refine f_getr (r := 93) rfl (by decide) rfl rfl fl_X6_7 dX6_dropNote_91 ?_
      refine g_bipush dX6_dropNote_94 (by decide) ?_
      refine f_iald rfl (by decide) ⟨by omega, by show _ < ((67 : Nat) : Int); omega⟩ dX6_dropNote_96 ?_
      rw [up_ne (fun z => by omega), up_ne (fun z => by omega), r12]
      refine g_iload1 dX6_dropNote_97 ?_
      refine g_icmp_le ⟨by omega, by omega⟩ ⟨by omega, by omega⟩ (tgt := 105) dX6_dropNote_98 rfl (fun h98 => ?_) (fun h98 => ?_)
      · refine g_iconst dX6_dropNote_105 ?_
        refine g_isub dX6_dropNote_106 ?_
        refine f_iast rfl (by decide) ⟨by omega, by show _ < ((67 : Nat) : Int); omega⟩ dX6_dropNote_107 ?_
        refine g_aload0 dX6_dropNote_108 ?_
        refine f_getr (r := 93) rfl (by decide) rfl rfl fl_X6_7 dX6_dropNote_109 ?_
        refine g_bipush dX6_dropNote_112 (by decide) ?_
        refine g_aload0 dX6_dropNote_114 ?_
        refine f_getr (r := 93) rfl (by decide) rfl rfl fl_X6_7 dX6_dropNote_115 ?_
        refine g_bipush dX6_dropNote_118 (by decide) ?_
        refine f_iald rfl (by decide) ⟨by omega, by show _ < ((67 : Nat) : Int); omega⟩ dX6_dropNote_120 ?_
        rw [up_eq]
        refine g_aload0 dX6_dropNote_121 ?_
        refine f_getr (r := 93) rfl (by decide) rfl rfl fl_X6_7 dX6_dropNote_122 ?_
        refine g_bipush dX6_dropNote_125 (by decide) ?_
        refine f_iald rfl (by decide) ⟨by omega, by show _ < ((67 : Nat) : Int); omega⟩ dX6_dropNote_127 ?_
        rw [up_ne (fun z => by omega), up_ne (fun z => by omega), up_eq]
        refine g_icmp_ge ⟨by omega, by omega⟩ ⟨by omega, by omega⟩ (tgt := 141) dX6_dropNote_128 rfl (fun h128 => ?_) (fun h128 => ?_)
        · refine g_iconst dX6_dropNote_141 ?_
          refine f_iast rfl (by decide) ⟨by omega, by show _ < ((67 : Nat) : Int); omega⟩ dX6_dropNote_142 ?_
          refine g_aload0 dX6_dropNote_143 ?_
          refine f_getr (r := 93) rfl (by decide) rfl rfl fl_X6_7 dX6_dropNote_144 ?_
          refine g_bipush dX6_dropNote_147 (by decide) ?_
          refine f_iald rfl (by decide) ⟨by omega, by show _ < ((67 : Nat) : Int); omega⟩ dX6_dropNote_149 ?_
          rw [up_ne (fun z => by omega), up_ne (fun z => by omega), up_ne (fun z => by omega), up_eq]
          refine g_iretI rfl dX6_dropNote_150 ?_
          refine Ms.ret rfl ((((((hSk.rg (27 + (k : Int)) (27 + (N - 1)) f).set 9 _).set _ _).set _ _).set _ _).rw (dr_row hN (by omega) hfe ?_)) (by rw [up_n (by decide), up_n (by decide), up_n (by decide), up_n (by decide), rg_n (by decide)]; exact hek)
          unfold drP
          repeat' split
          all_goals omega
        · refine g_aload0 dX6_dropNote_131 ?_
          refine f_getr (r := 93) rfl (by decide) rfl rfl fl_X6_7 dX6_dropNote_132 ?_
          refine g_bipush dX6_dropNote_135 (by decide) ?_
          refine f_iald rfl (by decide) ⟨by omega, by show _ < ((67 : Nat) : Int); omega⟩ dX6_dropNote_137 ?_
          rw [up_eq]
          refine g_goto (tgt := 142) dX6_dropNote_138 rfl ?_
          refine f_iast rfl (by decide) ⟨by omega, by show _ < ((67 : Nat) : Int); omega⟩ dX6_dropNote_142 ?_
          refine g_aload0 dX6_dropNote_143 ?_
          refine f_getr (r := 93) rfl (by decide) rfl rfl fl_X6_7 dX6_dropNote_144 ?_
          refine g_bipush dX6_dropNote_147 (by decide) ?_
          refine f_iald rfl (by decide) ⟨by omega, by show _ < ((67 : Nat) : Int); omega⟩ dX6_dropNote_149 ?_
          rw [up_ne (fun z => by omega), up_ne (fun z => by omega), up_ne (fun z => by omega), up_eq]
          refine g_iretI rfl dX6_dropNote_150 ?_
          refine Ms.ret rfl ((((((hSk.rg (27 + (k : Int)) (27 + (N - 1)) f).set 9 _).set _ _).set _ _).set _ _).rw (dr_row hN (by omega) hfe ?_)) (by rw [up_n (by decide), up_n (by decide), up_n (by decide), up_n (by decide), rg_n (by decide)]; exact hek)
          unfold drP
          repeat' split
          all_goals omega
      · refine g_iconst dX6_dropNote_101 ?_
        refine g_goto (tgt := 106) dX6_dropNote_102 rfl ?_
        refine g_isub dX6_dropNote_106 ?_
        refine f_iast rfl (by decide) ⟨by omega, by show _ < ((67 : Nat) : Int); omega⟩ dX6_dropNote_107 ?_
        refine g_aload0 dX6_dropNote_108 ?_
        refine f_getr (r := 93) rfl (by decide) rfl rfl fl_X6_7 dX6_dropNote_109 ?_
        refine g_bipush dX6_dropNote_112 (by decide) ?_
        refine g_aload0 dX6_dropNote_114 ?_
        refine f_getr (r := 93) rfl (by decide) rfl rfl fl_X6_7 dX6_dropNote_115 ?_
        refine g_bipush dX6_dropNote_118 (by decide) ?_
        refine f_iald rfl (by decide) ⟨by omega, by show _ < ((67 : Nat) : Int); omega⟩ dX6_dropNote_120 ?_
        rw [up_eq]
        refine g_aload0 dX6_dropNote_121 ?_
        refine f_getr (r := 93) rfl (by decide) rfl rfl fl_X6_7 dX6_dropNote_122 ?_
        refine g_bipush dX6_dropNote_125 (by decide) ?_
        refine f_iald rfl (by decide) ⟨by omega, by show _ < ((67 : Nat) : Int); omega⟩ dX6_dropNote_127 ?_
        rw [up_ne (fun z => by omega), up_ne (fun z => by omega), up_eq]
        refine g_icmp_ge ⟨by omega, by omega⟩ ⟨by omega, by omega⟩ (tgt := 141) dX6_dropNote_128 rfl (fun h128 => ?_) (fun h128 => ?_)
        · refine g_iconst dX6_dropNote_141 ?_
          refine f_iast rfl (by decide) ⟨by omega, by show _ < ((67 : Nat) : Int); omega⟩ dX6_dropNote_142 ?_
          refine g_aload0 dX6_dropNote_143 ?_
          refine f_getr (r := 93) rfl (by decide) rfl rfl fl_X6_7 dX6_dropNote_144 ?_
          refine g_bipush dX6_dropNote_147 (by decide) ?_
          refine f_iald rfl (by decide) ⟨by omega, by show _ < ((67 : Nat) : Int); omega⟩ dX6_dropNote_149 ?_
          rw [up_ne (fun z => by omega), up_ne (fun z => by omega), up_ne (fun z => by omega), up_eq]
          refine g_iretI rfl dX6_dropNote_150 ?_
          refine Ms.ret rfl ((((((hSk.rg (27 + (k : Int)) (27 + (N - 1)) f).set 9 _).set _ _).set _ _).set _ _).rw (dr_row hN (by omega) hfe ?_)) (by rw [up_n (by decide), up_n (by decide), up_n (by decide), up_n (by decide), rg_n (by decide)]; exact hek)
          unfold drP
          repeat' split
          all_goals omega
        · refine g_aload0 dX6_dropNote_131 ?_
          refine f_getr (r := 93) rfl (by decide) rfl rfl fl_X6_7 dX6_dropNote_132 ?_
          refine g_bipush dX6_dropNote_135 (by decide) ?_
          refine f_iald rfl (by decide) ⟨by omega, by show _ < ((67 : Nat) : Int); omega⟩ dX6_dropNote_137 ?_
          rw [up_eq]
          refine g_goto (tgt := 142) dX6_dropNote_138 rfl ?_
          refine f_iast rfl (by decide) ⟨by omega, by show _ < ((67 : Nat) : Int); omega⟩ dX6_dropNote_142 ?_
          refine g_aload0 dX6_dropNote_143 ?_
          refine f_getr (r := 93) rfl (by decide) rfl rfl fl_X6_7 dX6_dropNote_144 ?_
          refine g_bipush dX6_dropNote_147 (by decide) ?_
          refine f_iald rfl (by decide) ⟨by omega, by show _ < ((67 : Nat) : Int); omega⟩ dX6_dropNote_149 ?_
          rw [up_ne (fun z => by omega), up_ne (fun z => by omega), up_ne (fun z => by omega), up_eq]
          refine g_iretI rfl dX6_dropNote_150 ?_
          refine Ms.ret rfl ((((((hSk.rg (27 + (k : Int)) (27 + (N - 1)) f).set 9 _).set _ _).set _ _).set _ _).rw (dr_row hN (by omega) hfe ?_)) (by rw [up_n (by decide), up_n (by decide), up_n (by decide), up_n (by decide), rg_n (by decide)]; exact hek)
          unfold drP
          repeat' split
          all_goals omega
    · refine g_aload0 dX6_dropNote_29 ?_
      refine f_getr (r := 93) rfl (by decide) rfl rfl fl_X6_7 dX6_dropNote_30 ?_
      refine g_bipush dX6_dropNote_33 (by decide) ?_
      refine g_iload2 dX6_dropNote_35 ?_
      refine g_iadd dX6_dropNote_36 ?_
      refine g_aload0 dX6_dropNote_37 ?_
      refine f_getr (r := 93) rfl (by decide) rfl rfl fl_X6_7 dX6_dropNote_38 ?_
      refine g_bipush dX6_dropNote_41 (by decide) ?_
      refine g_iload2 dX6_dropNote_43 ?_
      refine g_iadd dX6_dropNote_44 ?_
      refine g_iconst dX6_dropNote_45 ?_
      refine g_iadd dX6_dropNote_46 ?_
      refine f_iald rfl (by decide) ⟨by omega, by show _ < ((67 : Nat) : Int); omega⟩ dX6_dropNote_47 ?_
      rw [rq]
      refine f_iast rfl (by decide) ⟨by omega, by show _ < ((67 : Nat) : Int); omega⟩ dX6_dropNote_48 ?_
      refine g_iinc2 dX6_dropNote_49 rfl (by decide) ?_
      refine g_goto (tgt := 16) dX6_dropNote_52 rfl ?_
      rw [rg_s (by omega) (by rw [hfe]), Int.add_assoc 27]
      exact ih (by omega) (by omega) _ (by omega)
  have h0 := loop k (by omega) (Nat.le_refl _) _ rfl
  rw [rg_0 (by omega)] at h0
  exact h0
theorem dropNote_r {B : Int} {s : Int → Int} (ho : SOK B s) (hs : σ 93 = s) {x : Int} (hx : R32 x) (h : ¬ (0 ≤ x ∧ x < s 9)) : Fo g zX6_dropNote [.ref 92, iv x] σ l (iv 0) 1 := by
  have hs0 : up σ 92 6 0 93 = s := (up_n (by decide)).trans hs
  have hM0 : Md σ (up σ 92 6 0) := md_th (Md.refl σ)
  have he0 : up σ 92 6 0 92 6 = 0 := up_eq
  have hp3 := p3_le ho.h7
  have hp0 := p3_pos (wH s)
  have hn40 := ho.n40
  have hnI := ho.nI
  have hH7 := ho.h7
  have hHI := ho.hI
  have hb4 := ho.halves
  have hb5 := ho.crosses
  refine Fn.of [some (.ref 92), some (iv x), none] rfl (by decide) (Nat.le_of_ble_eq_true rfl) rfl ?_
  refine g_aload0 dX6_dropNote_0 ?_
  refine g_iload1 dX6_dropNote_1 ?_
  refine f_cV1x (mayNote_n ho hs hx h) rfl (by decide) rfl oY_X6_mayNote oI_X6_mayNote lk_X6_330 rfl dX6_dropNote_2 rfl (Or.inl rfl) ?_
  refine g_if_ne ⟨by decide, by decide⟩ (tgt := 10) dX6_dropNote_5 rfl (fun h5 => absurd h5 (by decide)) (fun h5 => ?_)
  refine g_iconst dX6_dropNote_8 ?_
  refine g_iretI rfl dX6_dropNote_9 ?_
  exact Fo.ret rfl (md_th (Md.refl σ)) up_eq
end C80
