/-! The model: what it keeps, and what sets -/
section C78
variable {g : gT} {σ : sT} {l : Nat → Nat}
/-- rows from one to another -/
def cpM (σ : sT) (p : Nat) (a : Int) (q : Nat) (b : Int) (m : Nat) : sT := fun x j => if x = q ∧ b ≤ j ∧ j < b + (m : Int) then σ p (j - b + a) else σ x j
theorem cpM_0 {p q : Nat} {a b : Int} : cpM σ p a q b 0 = σ := by
  funext x j
  unfold cpM
  rw [if_neg (fun z => by omega)]
theorem cpM_n {p q : Nat} {a b : Int} {m x : Nat} (h : x ≠ q) : cpM σ p a q b m x = σ x := by
  funext j
  unfold cpM
  rw [if_neg (fun z => h z.1)]
theorem cpM_s {p q : Nat} {a b : Int} {m : Nat} (h : p ≠ q) : up (cpM σ p a q b m) q (b + (m : Int)) (cpM σ p a q b m p (a + (m : Int))) = cpM σ p a q b (m + 1) := by
  rw [cpM_n h]
  funext x j
  by_cases c : x = q ∧ j = b + (m : Int)
  · obtain ⟨rfl, rfl⟩ := c
    rw [up_eq]
    unfold cpM
    rw [if_pos ⟨rfl, by omega, by omega⟩]
    congr 1
    omega
  · rw [up_ne c]
    unfold cpM
    by_cases d : x = q ∧ b ≤ j ∧ j < b + (m : Int)
    · rw [if_pos d, if_pos ⟨d.1, d.2.1, by omega⟩]
    · rw [if_neg d, if_neg (fun z => d ⟨z.1, z.2.1, by
        have : j ≠ b + (m : Int) := fun y => c ⟨z.1, y⟩
        omega⟩)]
theorem cpM_in {p q : Nat} {a b : Int} {m : Nat} {j : Int} (h : b ≤ j ∧ j < b + (m : Int)) : cpM σ p a q b m q j = σ p (j - b + a) := by
  unfold cpM
  rw [if_pos ⟨rfl, h⟩]
theorem cpM_out {p q : Nat} {a b : Int} {m x : Nat} {j : Int} (h : ¬ (b ≤ j ∧ j < b + (m : Int))) : cpM σ p a q b m x j = σ x j := by
  unfold cpM
  rw [if_neg (fun z => h z.2)]
theorem copies_m {p q : Nat} (hp : kd p = 0) (hp2 : p < 110) (hq : kd q = 0) (hq2 : q < 110) (hpq : p ≠ q) {a b : Int} (ha : 0 ≤ a ∧ a + 67 ≤ (ln l p : Int)) (hb : 0 ≤ b ∧ b + 67 ≤ (ln l q : Int)) : FO g zX6_copies [.ref p, iv a, .ref q, iv b] σ l (cpM σ p a q b 67) := by
  refine Fn.of [some (.ref p), some (iv a), some (.ref q), some (iv b), none] rfl (by decide) (Nat.le_of_ble_eq_true rfl) rfl ?_
  have loop : ∀ k : Nat, k ≤ 67 → ∀ i : Int, i = (k : Int) → FW g zX6_copies 0 0 (fun o σ' l' => o = .inl none ∧ σ' = cpM σ p a q b 67 ∧ l' = l) 3 [some (.ref p), some (iv a), some (.ref q), some (iv b), some (iv i)] [] (cpM σ p a q b k) l := by
    refine loopUp _ (fun k hk2 ih i hi => ?_)
    subst hi
    refine g_iload4 dX6_copies_3 ?_
    refine g_bipush dX6_copies_5 (by decide) ?_
    refine g_icmp_ge ⟨by omega, by omega⟩ ⟨by omega, by omega⟩ (tgt := 28) dX6_copies_7 rfl (fun h7 => ?_) (fun h7 => ?_)
    · refine g_return rfl dX6_copies_28 ?_
      have e9 : k = 67 := by omega
      subst e9
      exact FO.ret rfl
    · refine g_aload2 dX6_copies_10 ?_
      refine g_iload3 dX6_copies_11 ?_
      refine g_iload4 dX6_copies_12 ?_
      refine g_iadd dX6_copies_14 ?_
      refine g_aload0 dX6_copies_15 ?_
      refine g_iload1 dX6_copies_16 ?_
      refine g_iload4 dX6_copies_17 ?_
      refine g_iadd dX6_copies_19 ?_
      refine f_iald hp hp2 ⟨by omega, by omega⟩ dX6_copies_20 ?_
      refine f_iast hq hq2 ⟨by omega, by omega⟩ dX6_copies_21 ?_
      refine g_iinc4 dX6_copies_22 rfl (by decide) ?_
      refine g_goto (tgt := 3) dX6_copies_25 rfl ?_
      rw [cpM_s hpq]
      exact ih (by omega) _ (by omega)
  refine g_iconst dX6_copies_0 ?_
  refine g_istore4 dX6_copies_1 rfl (by decide) ?_
  have h0 := loop 0 (by decide) _ rfl
  rw [cpM_0] at h0
  exact h0
/-- the rows of the past -/
def pr (σ : sT) : Nat → Int → Int := fun j k => σ 95 (67 * (j : Int) + k)
/-- what an act of the model leaves -/
def MS (σ τ : sT) (t : Int → Int) (n : Nat) (P : Nat → Int → Int) : Prop := (∀ a, a ≠ 92 → a ≠ 93 → a ≠ 95 → a < 98 ∨ 104 < a → τ a = σ a) ∧ (∀ j, j ≠ 5 → j ≠ 6 → τ 92 j = σ 92 j) ∧ τ 92 5 = (n : Int) ∧ Rw (τ 93) t ∧ ∀ j, j < n → Rw (pr τ j) (P j)
theorem Md.pr {τ : sT} (h : Md σ τ) : pr τ = pr σ := by
  funext j k
  show τ 95 _ = σ 95 _
  rw [h.1 95 (by decide) (Or.inl (by decide))]
theorem MS.md {ρ τ : sT} {t : Int → Int} {n : Nat} {P : Nat → Int → Int} (hM : Md σ ρ) (h : MS ρ τ t n P) : MS σ τ t n P := ⟨fun a a0 a1 a2 a3 => (h.1 a a0 a1 a2 a3).trans (hM.1 a a0 a3), fun j h5 h6 => (h.2.1 j h5 h6).trans (hM.2 j h6), h.2.2⟩
theorem MS.set {τ : sT} {t : Int → Int} {n : Nat} {P : Nat → Int → Int} (h : MS σ τ t n P) (k v : Int) : MS σ (up τ 93 k v) (su t k v) n P := by
  refine ⟨fun a a0 a1 a2 a3 => by rw [up_n a1]; exact h.1 a a0 a1 a2 a3, fun j h5 h6 => by rw [up_n (by decide)]; exact h.2.1 j h5 h6, by rw [up_n (by decide)]; exact h.2.2.1, fun j j0 j1 => ?_, fun j hj => ?_⟩
  · unfold su
    by_cases e : j = k
    · rw [e, up_eq, if_pos rfl]
    · rw [up_ne (fun z => e z.2), if_neg e]; exact h.2.2.2.1 j j0 j1
  · intro i i0 i1
    show up τ 93 k v 95 _ = _
    rw [up_n (by decide)]
    exact h.2.2.2.2 j hj i i0 i1
theorem MS.rw {τ : sT} {t u : Int → Int} {n : Nat} {P : Nat → Int → Int} (h : MS σ τ t n P) (r : Rw t u) : MS σ τ u n P := ⟨h.1, h.2.1, h.2.2.1, h.2.2.2.1.trans r, h.2.2.2.2⟩
theorem MS.th {τ : sT} {t : Int → Int} {n : Nat} {P : Nat → Int → Int} (h : MS σ τ t n P) (e : Int) : MS σ (up τ 92 6 e) t n P := by
  refine ⟨fun a a0 a1 a2 a3 => by rw [up_n a0]; exact h.1 a a0 a1 a2 a3, fun j h5 h6 => by rw [up_ne (fun z => h6 z.2)]; exact h.2.1 j h5 h6, by rw [up_ne (fun z => by omega)]; exact h.2.2.1, by rw [up_n (by decide)]; exact h.2.2.2.1, fun j hj i i0 i1 => ?_⟩
  show up τ 92 6 e 95 _ = _
  rw [up_n (by decide)]
  exact h.2.2.2.2 j hj i i0 i1
/-- an act, with what it has thrown -/
def Ms (g : gT) (y : yT) (as : List Value) (σ : sT) (l : Nat → Nat) (V : Value) (t : Int → Int) (n : Nat) (P : Nat → Int → Int) : Prop := Fn g y 0 0 as σ l (fun o τ l' => o = .inl (some V) ∧ l' = l ∧ MS σ τ t n P ∧ τ 92 6 = 0)
theorem Ms.ret {τ : sT} {V W : Value} {t : Int → Int} {n : Nat} {P : Nat → Int → Int} (h : W = V) (hM : MS σ τ t n P) (he : τ 92 6 = 0) : fΦ (fun o τ l' => o = .inl (some V) ∧ l' = l ∧ MS σ τ t n P ∧ τ 92 6 = 0) (.inl (some W)) (mem τ l) := ⟨τ, l, rfl, by rw [h], rfl, hM, he⟩
/-- the past, one row on -/
def shP (σ : sT) (q : Nat) : sT := fun x j => if x = 95 ∧ 0 ≤ j ∧ j < (q : Int) then σ 95 (j + 67) else σ x j
theorem shP_0 : shP σ 0 = σ := by
  funext x j
  unfold shP
  rw [if_neg (fun z => by omega)]
theorem shP_n {q x : Nat} (h : x ≠ 95) : shP σ q x = σ x := by
  funext j
  unfold shP
  rw [if_neg (fun z => h z.1)]
theorem shP_s {q : Nat} : up (shP σ q) 95 (q : Int) (shP σ q 95 ((q : Int) + 67)) = shP σ (q + 1) := by
  have e : shP σ q 95 ((q : Int) + 67) = σ 95 ((q : Int) + 67) := by
    unfold shP
    rw [if_neg (fun z => by omega)]
  rw [e]
  funext x j
  by_cases c : x = 95 ∧ j = (q : Int)
  · obtain ⟨rfl, rfl⟩ := c
    rw [up_eq]
    unfold shP
    rw [if_pos ⟨rfl, by omega, by omega⟩]
  · rw [up_ne c]
    unfold shP
    by_cases d : x = 95 ∧ 0 ≤ j ∧ j < (q : Int)
    · rw [if_pos d, if_pos ⟨d.1, d.2.1, by omega⟩]
    · rw [if_neg d, if_neg (fun z => d ⟨z.1, z.2.1, by
        have : j ≠ (q : Int) := fun y => c ⟨z.1, y⟩
        omega⟩)]
theorem keeps_m {n : Nat} (hn : σ 92 5 = (n : Int)) (h8 : n ≤ 8) : Fn g zX6_keeps 0 0 [.ref 92] σ l (fun o τ l' => o = .inl none ∧ (l' = l ∧ (∀ a, a ≠ 92 → a ≠ 95 → τ a = σ a) ∧ MS σ τ (σ 93) (nP n) (pP n (σ 93) (pr σ)) ∧ τ 92 6 = σ 92 6)) := by
  refine Fn.of [some (.ref 92), none] rfl (by decide) (Nat.le_of_ble_eq_true rfl) rfl ?_
  by_cases c : n = 8
  · subst c
    have loop : ∀ q : Nat, q ≤ 469 → ∀ i : Int, i = (q : Int) → FW g zX6_keeps 0 0 (fun o τ l' => o = .inl none ∧ (l' = l ∧ (∀ a, a ≠ 92 → a ≠ 95 → τ a = σ a) ∧ MS σ τ (σ 93) (nP 8) (pP 8 (σ 93) (pr σ)) ∧ τ 92 6 = σ 92 6)) 11 [some (.ref 92), some (iv i)] [] (shP σ q) l := by
      refine loopUp _ (fun q hq2 ih i hi => ?_)
      subst hi
      refine g_iload1 dX6_keeps_11 ?_
      refine g_sipush dX6_keeps_12 (by decide) ?_
      refine g_icmp_ge ⟨by omega, by omega⟩ ⟨by omega, by omega⟩ (tgt := 39) dX6_keeps_15 rfl (fun h15 => ?_) (fun h15 => ?_)
      · have e9 : q = 469 := by omega
        subst e9
        refine g_aload0 dX6_keeps_39 ?_
        refine g_dup rfl dX6_keeps_40 ?_
        refine f_geti (J := 5) rfl (by decide) rfl rfl fl_X6_69 dX6_keeps_41 ?_
        rw [show shP σ 469 92 5 = (8 : Int) from (congrFun (shP_n (by decide)) 5).trans hn]
        refine g_iconst dX6_keeps_44 ?_
        refine g_isub dX6_keeps_45 ?_
        refine f_puti (J := 5) rfl (by decide) rfl rfl fl_X6_69 rfl (fun _ _ _ h => by cases h; rfl) dX6_keeps_46 ?_
        refine g_aload0 dX6_keeps_49 ?_
        refine f_getr (r := 93) rfl (by decide) rfl rfl fl_X6_7 dX6_keeps_50 ?_
        refine g_iconst dX6_keeps_53 ?_
        refine g_aload0 dX6_keeps_54 ?_
        refine f_getr (r := 95) rfl (by decide) rfl rfl fl_X6_16 dX6_keeps_55 ?_
        refine g_bipush dX6_keeps_58 (by decide) ?_
        refine g_aload0 dX6_keeps_60 ?_
        refine f_geti (J := 5) rfl (by decide) rfl rfl fl_X6_69 dX6_keeps_61 ?_
        rw [up_eq]
        refine g_imul dX6_keeps_64 ?_
        refine f_cS4d (copies_m (p := 93) (q := 95) rfl (by decide) rfl (by decide) (by decide) ⟨by decide, by show (0 : Int) + 67 ≤ ((67 : Nat) : Int); decide⟩ ⟨by omega, by show _ ≤ ((536 : Nat) : Int); omega⟩) oY_X6_copies oT_X6_copies lk_X6_72 rfl dX6_keeps_65 rfl (Or.inl rfl) ?_
        refine g_aload0 dX6_keeps_68 ?_
        refine g_dup rfl dX6_keeps_69 ?_
        refine f_geti (J := 5) rfl (by decide) rfl rfl fl_X6_69 dX6_keeps_70 ?_
        rw [show cpM (up (shP σ 469) 92 5 (8 - 1)) 93 0 95 (67 * (8 - 1)) 67 92 5 = (8 - 1 : Int) from (congrFun (cpM_n (by decide)) 5).trans up_eq]
        refine g_iconst dX6_keeps_73 ?_
        refine g_iadd dX6_keeps_74 ?_
        refine f_puti (J := 5) rfl (by decide) rfl rfl fl_X6_69 rfl (fun _ _ _ h => by cases h; rfl) dX6_keeps_75 ?_
        refine g_return rfl dX6_keeps_78 ?_
        refine fn_ret ⟨rfl, rfl, fun a h0 h1 => ?_, ⟨fun a h0 h1 h2 h3 => ?_, fun j h5 h6 => ?_, ?_, ?_, fun j hj k k0 k1 => ?_⟩, ?_⟩
        · rw [up_n h0, cpM_n h1, up_n h0, shP_n h1]
        · rw [up_n h0, cpM_n h2, up_n h0, shP_n h2]
        · rw [up_ne (fun z => h5 z.2), cpM_n (by decide), up_ne (fun z => h5 z.2), shP_n (by decide)]
        · rw [up_eq]; rfl
        · rw [up_n (by decide), cpM_n (by decide), up_n (by decide), shP_n (by decide)]; exact Rw.refl _
        · show up _ 92 5 _ 95 (67 * (j : Int) + k) = pP 8 (σ 93) (pr σ) j k
          rw [up_n (by decide)]
          unfold pP
          rw [if_neg (by decide)]
          have hj8 : j < 8 := hj
          by_cases e : j = 7
          · subst e
            rw [if_pos rfl, cpM_in (by constructor <;> omega), up_n (by decide), shP_n (by decide)]
            congr 1
            omega
          · rw [if_neg e, cpM_out (fun z => by omega), up_n (by decide)]
            unfold shP pr
            rw [if_pos ⟨rfl, by omega, by omega⟩]
            congr 1
            push_cast
            omega
        · rw [up_ne (fun z => by omega), cpM_n (by decide), up_ne (fun z => by omega), shP_n (by decide)]
      · refine g_aload0 dX6_keeps_18 ?_
        refine f_getr (r := 95) rfl (by decide) rfl rfl fl_X6_16 dX6_keeps_19 ?_
        refine g_iload1 dX6_keeps_22 ?_
        refine g_aload0 dX6_keeps_23 ?_
        refine f_getr (r := 95) rfl (by decide) rfl rfl fl_X6_16 dX6_keeps_24 ?_
        refine g_iload1 dX6_keeps_27 ?_
        refine g_bipush dX6_keeps_28 (by decide) ?_
        refine g_iadd dX6_keeps_30 ?_
        refine f_iald rfl (by decide) ⟨by omega, by show _ < ((536 : Nat) : Int); omega⟩ dX6_keeps_31 ?_
        refine f_iast rfl (by decide) ⟨by omega, by show _ < ((536 : Nat) : Int); omega⟩ dX6_keeps_32 ?_
        refine g_iinc1 dX6_keeps_33 rfl (by decide) ?_
        refine g_goto (tgt := 11) dX6_keeps_36 rfl ?_
        rw [shP_s]
        exact ih (by omega) _ (by omega)
    refine g_aload0 dX6_keeps_0 ?_
    refine f_geti (J := 5) rfl (by decide) rfl rfl fl_X6_69 dX6_keeps_1 ?_
    rw [hn]
    refine g_bipush dX6_keeps_4 (by decide) ?_
    refine g_icmp_ne ⟨by omega, by omega⟩ ⟨by omega, by omega⟩ (tgt := 49) dX6_keeps_6 rfl (fun h6 => absurd h6 (by omega)) (fun h6 => ?_)
    refine g_iconst dX6_keeps_9 ?_
    refine g_istore1 dX6_keeps_10 rfl (by decide) ?_
    have h0 := loop 0 (by decide) _ rfl
    rw [shP_0] at h0
    exact h0
  · refine g_aload0 dX6_keeps_0 ?_
    refine f_geti (J := 5) rfl (by decide) rfl rfl fl_X6_69 dX6_keeps_1 ?_
    rw [hn]
    refine g_bipush dX6_keeps_4 (by decide) ?_
    refine g_icmp_ne ⟨by omega, by omega⟩ ⟨by omega, by omega⟩ (tgt := 49) dX6_keeps_6 rfl (fun h6 => ?_) (fun h6 => absurd h6 (by omega))
    refine g_aload0 dX6_keeps_49 ?_
    refine f_getr (r := 93) rfl (by decide) rfl rfl fl_X6_7 dX6_keeps_50 ?_
    refine g_iconst dX6_keeps_53 ?_
    refine g_aload0 dX6_keeps_54 ?_
    refine f_getr (r := 95) rfl (by decide) rfl rfl fl_X6_16 dX6_keeps_55 ?_
    refine g_bipush dX6_keeps_58 (by decide) ?_
    refine g_aload0 dX6_keeps_60 ?_
    refine f_geti (J := 5) rfl (by decide) rfl rfl fl_X6_69 dX6_keeps_61 ?_
    rw [hn]
    refine g_imul dX6_keeps_64 ?_
    refine f_cS4d (copies_m (p := 93) (q := 95) rfl (by decide) rfl (by decide) (by decide) ⟨by decide, by show (0 : Int) + 67 ≤ ((67 : Nat) : Int); decide⟩ ⟨by omega, by show _ ≤ ((536 : Nat) : Int); omega⟩) oY_X6_copies oT_X6_copies lk_X6_72 rfl dX6_keeps_65 rfl (Or.inl rfl) ?_
    refine g_aload0 dX6_keeps_68 ?_
    refine g_dup rfl dX6_keeps_69 ?_
    refine f_geti (J := 5) rfl (by decide) rfl rfl fl_X6_69 dX6_keeps_70 ?_
    rw [show cpM σ 93 0 95 (67 * (n : Int)) 67 92 5 = (n : Int) from (congrFun (cpM_n (by decide)) 5).trans hn]
    refine g_iconst dX6_keeps_73 ?_
    refine g_iadd dX6_keeps_74 ?_
    refine f_puti (J := 5) rfl (by decide) rfl rfl fl_X6_69 rfl (fun _ _ _ h => by cases h; rfl) dX6_keeps_75 ?_
    refine g_return rfl dX6_keeps_78 ?_
    refine fn_ret ⟨rfl, rfl, fun a h0 h1 => ?_, ⟨fun a h0 h1 h2 h3 => ?_, fun j h5 h6 => ?_, ?_, ?_, fun j hj k k0 k1 => ?_⟩, ?_⟩
    · rw [up_n h0, cpM_n h1]
    · rw [up_n h0, cpM_n h2]
    · rw [up_ne (fun z => h5 z.2), cpM_n (by decide)]
    · rw [up_eq]
      unfold nP
      omega
    · rw [up_n (by decide), cpM_n (by decide)]; exact Rw.refl _
    · show up _ 92 5 _ 95 (67 * (j : Int) + k) = pP n (σ 93) (pr σ) j k
      rw [up_n (by decide)]
      unfold pP
      have hj8 : j ≤ n := by unfold nP at hj; omega
      rw [if_pos (by omega)]
      by_cases e : j = n
      · subst e
        rw [if_pos rfl, cpM_in (by constructor <;> omega)]
        congr 1
        omega
      · rw [if_neg e, cpM_out (fun z => by omega)]
        rfl
    · rw [up_ne (fun z => by omega), cpM_n (by decide)]
theorem keepsP {B : Int} {s : Int → Int} {ρ : sT} {n : Nat} (hM : Md σ ρ) (hs : σ 93 = s) (hn : σ 92 5 = (n : Int)) (h8 : n ≤ 8) : Fu g zX6_keeps 0 0 [.ref 92] ρ l (fun τ l' => l' = l ∧ τ 93 = s ∧ MS σ τ s (nP n) (pP n s (pr σ)) ∧ τ 92 6 = ρ 92 6) := by
  refine Fn.mono (keeps_m (σ := ρ) (n := n) (by rw [hM.2 5 (by decide)]; exact hn) h8) (fun o τ l' h => ?_)
  have e93 := hM.s hs
  refine ⟨h.1, h.2.1, (h.2.2.1 93 (by decide) (by decide)).trans e93, ?_, h.2.2.2.2⟩
  have h2 := h.2.2.2.1.md hM
  rw [e93, hM.pr] at h2
  exact h2
theorem becomes_m {B : Int} {s : Int → Int} {ρ : sT} {n : Nat} (hM : Md σ ρ) (hs : σ 93 = s) (hn : σ 92 5 = (n : Int)) (h8 : n ≤ 8) {k v : Int} (hk : 0 ≤ k ∧ k < 67) : Fn g zX6_becomes 0 0 [.ref 92, iv k, iv v] ρ l (fun o τ l' => o = .inl (some (iv (s k))) ∧ (l' = l ∧ τ 93 = su s k v ∧ MS σ τ (su s k v) (nP n) (pP n s (pr σ)) ∧ τ 92 6 = ρ 92 6)) := by
  refine Fn.of [some (.ref 92), some (iv k), some (iv v), none] rfl (by decide) (Nat.le_of_ble_eq_true rfl) rfl ?_
  refine g_aload0 dX6_becomes_0 ?_
  refine f_cV0m (keepsP (B := B) hM hs hn h8) rfl (by decide) rfl oY_X6_keeps oI_X6_keeps lk_X6_364 rfl dX6_becomes_1 (by omega) (by omega) rfl (Or.inl rfl) (fun σ1 l1 h1 => ?_)
  have el := h1.1
  subst el
  refine g_aload0 dX6_becomes_4 ?_
  refine f_getr (r := 93) rfl (by decide) rfl rfl fl_X6_7 dX6_becomes_5 ?_
  try rw [h1.2.1]
  refine g_iload1 dX6_becomes_8 ?_
  refine f_iald rfl (by decide) ⟨by omega, by show _ < ((67 : Nat) : Int); omega⟩ dX6_becomes_9 ?_
  try rw [h1.2.1]
  refine g_istore3 dX6_becomes_10 rfl (by decide) ?_
  refine g_aload0 dX6_becomes_11 ?_
  refine f_getr (r := 93) rfl (by decide) rfl rfl fl_X6_7 dX6_becomes_12 ?_
  try rw [h1.2.1]
  refine g_iload1 dX6_becomes_15 ?_
  refine g_iload2 dX6_becomes_16 ?_
  refine f_iast rfl (by decide) ⟨by omega, by show _ < ((67 : Nat) : Int); omega⟩ dX6_becomes_17 ?_
  refine g_iload3 dX6_becomes_18 ?_
  refine g_iretI rfl dX6_becomes_19 ?_
  refine fn_ret ⟨rfl, rfl, ?_, h1.2.2.1.set k v, by rw [up_n (by decide)]; exact h1.2.2.2⟩
  funext j
  unfold su
  by_cases e : j = k
  · rw [e, up_eq, if_pos rfl]
  · rw [up_ne (fun z => e z.2), if_neg e, h1.2.1]
end C78
