/-! The model: firstOf, costFor, findsWay, changeTo -/
section C72
variable {g : gT} {σ : sT} {l : Nat → Nat}
/-- the first least of the plays of a tone, and its cost, found by going over all -/
def pq (F TE : Int → Int) (t : Int) : Nat → Int × Int
  | 0 => (-1, 0)
  | n + 1 => if TE n = t ∧ ((pq F TE t n).1 = -1 ∨ F n < (pq F TE t n).2) then ((n : Int), F n) else pq F TE t n
theorem pq_y {F TE : Int → Int} {t : Int} {n : Nat} (h : TE n = t) (h2 : (pq F TE t n).1 = -1 ∨ F n < (pq F TE t n).2) : pq F TE t (n + 1) = ((n : Int), F n) := if_pos ⟨h, h2⟩
theorem pq_n {F TE : Int → Int} {t : Int} {n : Nat} (h : TE n ≠ t) : pq F TE t (n + 1) = pq F TE t n := if_neg (fun z => h z.1)
theorem pq_k {F TE : Int → Int} {t : Int} {n : Nat} (h : (pq F TE t n).1 ≠ -1) (h2 : (pq F TE t n).2 ≤ F n) : pq F TE t (n + 1) = pq F TE t n := if_neg (fun z => by
  rcases z.2 with y | y
  · exact h y
  · omega)
theorem pq_rng {F TE : Int → Int} {t : Int} (hF : ∀ q, 0 ≤ F q ∧ F q ≤ 10000) (n : Nat) : -1 ≤ (pq F TE t n).1 ∧ (pq F TE t n).1 < n ∧ 0 ≤ (pq F TE t n).2 ∧ (pq F TE t n).2 ≤ 10000 := by
  induction n with
  | zero => exact ⟨show (-1 : Int) ≤ -1 by decide, show (-1 : Int) < 0 by decide, show (0 : Int) ≤ 0 by decide, show (0 : Int) ≤ 10000 by decide⟩
  | succ n ih =>
    have h := hF n
    unfold pq
    split
    · exact ⟨by omega, by omega, h.1, h.2⟩
    · exact ⟨ih.1, by omega, ih.2.2⟩
theorem getD_app {L : List Nat} {n i : Nat} (h : i < L.length) : (L ++ [n]).getD i 0 = L.getD i 0 := by
  rw [List.getD_eq_getElem?_getD, List.getElem?_append_left h, ← List.getD_eq_getElem?_getD]
theorem getD_app1 {L : List Nat} {n : Nat} : (L ++ [n]).getD L.length 0 = n := by
  rw [List.getD_eq_getElem?_getD, List.getElem?_append_right (Nat.le_refl _), Nat.sub_self]
  rfl
theorem pq_ok {F TE : Int → Int} {t : Int} (hF : ∀ q, F q < 2000000) : ∀ n : Nat, (pq F TE t n).1 = pkA F (EL TE t n) ∧ ((EL TE t n).length = 0 → (pq F TE t n).1 = -1) ∧ ((EL TE t n).length ≠ 0 → (pq F TE t n).1 ≠ -1 ∧ (pq F TE t n).2 = (pk (fun i => F ((EL TE t n).getD i 0 : Nat)) (EL TE t n).length).2) := by
  intro n
  induction n with
  | zero => exact ⟨(pkA_nil rfl).symm, fun _ => rfl, fun z => absurd rfl z⟩
  | succ n ih =>
    by_cases c : TE n = t
    · have hE : EL TE t (n + 1) = EL TE t n ++ [n] := by rw [EL_succ, if_pos c]
      obtain ⟨L, hL⟩ : ∃ L, L = EL TE t n := ⟨_, rfl⟩
      rw [hE]
      rw [← hL] at ih ⊢
      have hlen : (L ++ [n]).length = L.length + 1 := by rw [List.length_append]; rfl
      rw [hlen]
      have hcg : pk (fun i => F ((L ++ [n]).getD i 0 : Nat)) L.length = pk (fun i => F (L.getD i 0 : Nat)) L.length := pk_congr _ (fun i hi => by rw [getD_app hi])
      by_cases d : F n < (pk (fun i => F (L.getD i 0 : Nat)) L.length).2
      · have h1 : pk (fun i => F ((L ++ [n]).getD i 0 : Nat)) (L.length + 1) = ((L.length : Int), F n) := by
          have := pkB_lt (f := fun i => F ((L ++ [n]).getD i 0 : Nat)) (n := L.length) (by rw [hcg, getD_app1]; exact d)
          rw [this, getD_app1]
        have h2 : pq F TE t (n + 1) = ((n : Int), F n) := by
          refine pq_y c ?_
          by_cases e : L.length = 0
          · exact Or.inl (ih.2.1 e)
          · rw [(ih.2.2 e).2]; exact Or.inr d
        refine ⟨?_, fun z => by omega, fun _ => ?_⟩
        · rw [h2]
          unfold pkA
          rw [hlen, h1]
          rw [if_neg (show ¬ (L.length : Int) = -1 by omega)]
          show (n : Int) = (((L ++ [n]).getD ((L.length : Int)).toNat 0 : Nat) : Int)
          rw [Int.toNat_natCast, getD_app1]
        · rw [h1, h2]
          exact ⟨show (n : Int) ≠ -1 by omega, rfl⟩
      · have hne : L.length ≠ 0 := by
          intro z
          rw [z] at d
          exact d (hF n)
        obtain ⟨i, m1, m2, m3, m4⟩ := pk_min (f := fun i => F (L.getD i 0 : Nat)) L.length (by omega) (fun i _ => hF _)
        have h1 : pk (fun i => F ((L ++ [n]).getD i 0 : Nat)) (L.length + 1) = pk (fun i => F (L.getD i 0 : Nat)) L.length := by
          have := pkB_ge (f := fun i => F ((L ++ [n]).getD i 0 : Nat)) (n := L.length) (by rw [hcg, getD_app1]; omega)
          rw [this, hcg]
        have h2 : pq F TE t (n + 1) = pq F TE t n := pq_k (ih.2.2 hne).1 (by rw [(ih.2.2 hne).2]; omega)
        refine ⟨?_, fun z => by omega, fun _ => ?_⟩
        · rw [h2, ih.1]
          unfold pkA
          rw [hlen, h1, m2, if_neg (show ¬ (i : Int) = -1 by omega), if_neg (show ¬ (i : Int) = -1 by omega), Int.toNat_natCast, getD_app m1]
        · rw [h1, h2]
          exact ih.2.2 hne
    · have hE : EL TE t (n + 1) = EL TE t n := by rw [EL_succ, if_neg c, List.append_nil]
      rw [hE, pq_n c]
      exact ih
theorem firstOf_m {B : Int} {s : Int → Int} (ho : SOK B s) (hs : σ 93 = s) {k : Nat} (hk : k < 40) {pv : Int} (hpv : pv = -1 ∨ 0 ≤ pv ∧ pv < (2 * ((3 ^ wH s : Nat) : Int))) {A TE : Int → Int} {t : Int} (hA : ∀ p, 0 ≤ A p ∧ A p ≤ 2880) (hr : ∀ p, 0 ≤ p → p < (2 * ((3 ^ wH s : Nat) : Int)) → σ 102 (4374 * (k : Int) + p) = if TE p = t then A p else 1000000) : Fw g zX6_firstOf [.ref 92, iv (k : Int), iv pv] σ l (iv (pkA (fun q => A q + (if pv = -1 then 0 else wCo s pv q)) (EL TE t (2 * 3 ^ wH s)))) := by
  have hp3 := p3_le ho.h7
  have hp0 := p3_pos (wH s)
  obtain ⟨F, hFd⟩ : ∃ F : Int → Int, F = fun q => A q + (if pv = -1 then 0 else wCo s pv q) := ⟨_, rfl⟩
  have hFv : ∀ q, F q = A q + (if pv = -1 then 0 else wCo s pv q) := fun q => by rw [hFd]
  have hF : ∀ q, 0 ≤ F q ∧ F q ≤ 10000 := fun q => by
    rw [hFv]
    have h1 := hA q
    have h2 := wCo_rng ho pv q
    split <;> omega
  have hfin := (pq_ok (TE := TE) (t := t) (fun q => show F q < 2000000 by have := hF q; omega) (2 * 3 ^ wH s)).1
  rw [← hFd]
  refine Fn.of [some (.ref 92), some (iv (k : Int)), some (iv pv), none, none, none, none, none, none] rfl (by decide) (Nat.le_of_ble_eq_true rfl) rfl ?_
  have loop : ∀ q : Nat, q ≤ 2 * 3 ^ wH s → ∀ (i be it : Int) (u7 u8 : Option Value), i = (q : Int) → be = (pq F TE t q).1 → it = (pq F TE t q).2 → FW g zX6_firstOf 0 0 (fun o σ' l' => o = .inl (some (iv (pkA F (EL TE t (2 * 3 ^ wH s))))) ∧ σ' = σ ∧ l' = l) 14 [some (.ref 92), some (iv (k : Int)), some (iv pv), some (iv (2 * ((3 ^ wH s : Nat) : Int))), some (iv be), some (iv it), some (iv i), u7, u8] [] σ l := by
    refine loopUp _ (fun q hq2 ih i be it u7 u8 hi hbe hit => ?_)
    subst hi
    subst hbe
    subst hit
    have hpr := pq_rng (TE := TE) (t := t) hF q
    have hAq := hA q
    have hFq := hFv q
    by_cases hqn : q < 2 * 3 ^ wH s
    · by_cases hT : TE (q : Int) = t
      · by_cases hz : pv = -1
        · rw [if_pos hz, Int.add_zero] at hFq
          refine g_iload6 dX6_firstOf_14 ?_
          refine g_iload3 dX6_firstOf_16 ?_
          refine g_icmp_ge ⟨by omega, by omega⟩ ⟨by omega, by omega⟩ (tgt := 93) dX6_firstOf_17 rfl (fun h17 => absurd h17 (by omega)) (fun h17 => ?_)
          refine g_aload0 dX6_firstOf_20 ?_
          refine f_getr (r := 102) rfl (by decide) rfl rfl fl_X6_40 dX6_firstOf_21 ?_
          refine g_sipush dX6_firstOf_24 (by decide) ?_
          refine g_iload1 dX6_firstOf_27 ?_
          refine g_imul dX6_firstOf_28 ?_
          refine g_iload6 dX6_firstOf_29 ?_
          refine g_iadd dX6_firstOf_31 ?_
          refine f_iald rfl (by decide) ⟨by omega, by show _ < ((174960 : Nat) : Int); omega⟩ dX6_firstOf_32 ?_
          rw [hr _ (by omega) (by omega), if_pos hT]
          refine g_istore7 dX6_firstOf_33 rfl (by decide) ?_
          refine g_iload7 dX6_firstOf_35 ?_
          refine g_ldc (v := Int32.ofInt (1000000)) kc_X6_159 dX6_firstOf_37 ?_
          refine g_icmp_lt ⟨by omega, by omega⟩ ⟨by omega, by omega⟩ (tgt := 45) dX6_firstOf_39 rfl (fun h39 => ?_) (fun h39 => absurd h39 (by omega))
          refine g_iload7 dX6_firstOf_45 ?_
          refine g_iload2 dX6_firstOf_47 ?_
          refine g_iconst dX6_firstOf_48 ?_
          refine g_icmp_ne ⟨by omega, by omega⟩ ⟨by omega, by omega⟩ (tgt := 56) dX6_firstOf_49 rfl (fun h49 => absurd h49 (by omega)) (fun h49 => ?_)
          refine g_iconst dX6_firstOf_52 ?_
          refine g_goto (tgt := 63) dX6_firstOf_53 rfl ?_
          refine g_iadd dX6_firstOf_63 ?_
          refine g_istore8 dX6_firstOf_64 rfl (by decide) ?_
          refine g_iload4 dX6_firstOf_66 ?_
          refine g_iconst dX6_firstOf_68 ?_
          refine g_icmp_eq ⟨by omega, by omega⟩ ⟨by omega, by omega⟩ (tgt := 79) dX6_firstOf_69 rfl (fun h69 => ?_) (fun h69 => ?_)
          · refine g_iload6 dX6_firstOf_79 ?_
            refine g_istore4 dX6_firstOf_81 rfl (by decide) ?_
            refine g_iload8 dX6_firstOf_83 ?_
            refine g_istore5 dX6_firstOf_85 rfl (by decide) ?_
            refine g_iinc6 dX6_firstOf_87 rfl (by decide) ?_
            refine g_goto (tgt := 14) dX6_firstOf_90 rfl ?_
            first
              | exact ih (by omega) _ _ _ _ _ (by push_cast; omega) (by rw [pq_y hT (by omega)]) (by rw [pq_y hT (by omega)]; show _ = F (q : Int); omega)
              | exact ih (by omega) _ _ _ _ _ (by push_cast; omega) (by rw [pq_k (by omega) (by omega)]) (by rw [pq_k (by omega) (by omega)])
          · refine g_iload8 dX6_firstOf_72 ?_
            refine g_iload5 dX6_firstOf_74 ?_
            refine g_icmp_ge ⟨by omega, by omega⟩ ⟨by omega, by omega⟩ (tgt := 87) dX6_firstOf_76 rfl (fun h76 => ?_) (fun h76 => ?_)
            · refine g_iinc6 dX6_firstOf_87 rfl (by decide) ?_
              refine g_goto (tgt := 14) dX6_firstOf_90 rfl ?_
              first
                | exact ih (by omega) _ _ _ _ _ (by push_cast; omega) (by rw [pq_y hT (by omega)]) (by rw [pq_y hT (by omega)]; show _ = F (q : Int); omega)
                | exact ih (by omega) _ _ _ _ _ (by push_cast; omega) (by rw [pq_k (by omega) (by omega)]) (by rw [pq_k (by omega) (by omega)])
            · refine g_iload6 dX6_firstOf_79 ?_
              refine g_istore4 dX6_firstOf_81 rfl (by decide) ?_
              refine g_iload8 dX6_firstOf_83 ?_
              refine g_istore5 dX6_firstOf_85 rfl (by decide) ?_
              refine g_iinc6 dX6_firstOf_87 rfl (by decide) ?_
              refine g_goto (tgt := 14) dX6_firstOf_90 rfl ?_
              first
                | exact ih (by omega) _ _ _ _ _ (by push_cast; omega) (by rw [pq_y hT (by omega)]) (by rw [pq_y hT (by omega)]; show _ = F (q : Int); omega)
                | exact ih (by omega) _ _ _ _ _ (by push_cast; omega) (by rw [pq_k (by omega) (by omega)]) (by rw [pq_k (by omega) (by omega)])
        · rw [if_neg hz] at hFq
          have hco := wCo_rng ho pv q
          refine g_iload6 dX6_firstOf_14 ?_
          refine g_iload3 dX6_firstOf_16 ?_
          refine g_icmp_ge ⟨by omega, by omega⟩ ⟨by omega, by omega⟩ (tgt := 93) dX6_firstOf_17 rfl (fun h17 => absurd h17 (by omega)) (fun h17 => ?_)
          refine g_aload0 dX6_firstOf_20 ?_
          refine f_getr (r := 102) rfl (by decide) rfl rfl fl_X6_40 dX6_firstOf_21 ?_
          refine g_sipush dX6_firstOf_24 (by decide) ?_
          refine g_iload1 dX6_firstOf_27 ?_
          refine g_imul dX6_firstOf_28 ?_
          refine g_iload6 dX6_firstOf_29 ?_
          refine g_iadd dX6_firstOf_31 ?_
          refine f_iald rfl (by decide) ⟨by omega, by show _ < ((174960 : Nat) : Int); omega⟩ dX6_firstOf_32 ?_
          rw [hr _ (by omega) (by omega), if_pos hT]
          refine g_istore7 dX6_firstOf_33 rfl (by decide) ?_
          refine g_iload7 dX6_firstOf_35 ?_
          refine g_ldc (v := Int32.ofInt (1000000)) kc_X6_159 dX6_firstOf_37 ?_
          refine g_icmp_lt ⟨by omega, by omega⟩ ⟨by omega, by omega⟩ (tgt := 45) dX6_firstOf_39 rfl (fun h39 => ?_) (fun h39 => absurd h39 (by omega))
          refine g_iload7 dX6_firstOf_45 ?_
          refine g_iload2 dX6_firstOf_47 ?_
          refine g_iconst dX6_firstOf_48 ?_
          refine g_icmp_ne ⟨by omega, by omega⟩ ⟨by omega, by omega⟩ (tgt := 56) dX6_firstOf_49 rfl (fun h49 => ?_) (fun h49 => absurd h49 (by omega))
          refine g_aload0 dX6_firstOf_56 ?_
          refine g_iload2 dX6_firstOf_57 ?_
          refine g_iload6 dX6_firstOf_58 ?_
          refine f_cV2w (cost_m ho hs (by omega) ⟨by omega, by omega⟩) rfl (by decide) rfl oY_X6_costOf oI_X6_costOf lk_X6_160 rfl dX6_firstOf_60 rfl (Or.inl rfl) ?_
          refine g_iadd dX6_firstOf_63 ?_
          refine g_istore8 dX6_firstOf_64 rfl (by decide) ?_
          refine g_iload4 dX6_firstOf_66 ?_
          refine g_iconst dX6_firstOf_68 ?_
          refine g_icmp_eq ⟨by omega, by omega⟩ ⟨by omega, by omega⟩ (tgt := 79) dX6_firstOf_69 rfl (fun h69 => ?_) (fun h69 => ?_)
          · refine g_iload6 dX6_firstOf_79 ?_
            refine g_istore4 dX6_firstOf_81 rfl (by decide) ?_
            refine g_iload8 dX6_firstOf_83 ?_
            refine g_istore5 dX6_firstOf_85 rfl (by decide) ?_
            refine g_iinc6 dX6_firstOf_87 rfl (by decide) ?_
            refine g_goto (tgt := 14) dX6_firstOf_90 rfl ?_
            first
              | exact ih (by omega) _ _ _ _ _ (by push_cast; omega) (by rw [pq_y hT (by omega)]) (by rw [pq_y hT (by omega)]; show _ = F (q : Int); omega)
              | exact ih (by omega) _ _ _ _ _ (by push_cast; omega) (by rw [pq_k (by omega) (by omega)]) (by rw [pq_k (by omega) (by omega)])
          · refine g_iload8 dX6_firstOf_72 ?_
            refine g_iload5 dX6_firstOf_74 ?_
            refine g_icmp_ge ⟨by omega, by omega⟩ ⟨by omega, by omega⟩ (tgt := 87) dX6_firstOf_76 rfl (fun h76 => ?_) (fun h76 => ?_)
            · refine g_iinc6 dX6_firstOf_87 rfl (by decide) ?_
              refine g_goto (tgt := 14) dX6_firstOf_90 rfl ?_
              first
                | exact ih (by omega) _ _ _ _ _ (by push_cast; omega) (by rw [pq_y hT (by omega)]) (by rw [pq_y hT (by omega)]; show _ = F (q : Int); omega)
                | exact ih (by omega) _ _ _ _ _ (by push_cast; omega) (by rw [pq_k (by omega) (by omega)]) (by rw [pq_k (by omega) (by omega)])
            · refine g_iload6 dX6_firstOf_79 ?_
              refine g_istore4 dX6_firstOf_81 rfl (by decide) ?_
              refine g_iload8 dX6_firstOf_83 ?_
              refine g_istore5 dX6_firstOf_85 rfl (by decide) ?_
              refine g_iinc6 dX6_firstOf_87 rfl (by decide) ?_
              refine g_goto (tgt := 14) dX6_firstOf_90 rfl ?_
              first
                | exact ih (by omega) _ _ _ _ _ (by push_cast; omega) (by rw [pq_y hT (by omega)]) (by rw [pq_y hT (by omega)]; show _ = F (q : Int); omega)
                | exact ih (by omega) _ _ _ _ _ (by push_cast; omega) (by rw [pq_k (by omega) (by omega)]) (by rw [pq_k (by omega) (by omega)])
      · refine g_iload6 dX6_firstOf_14 ?_
        refine g_iload3 dX6_firstOf_16 ?_
        refine g_icmp_ge ⟨by omega, by omega⟩ ⟨by omega, by omega⟩ (tgt := 93) dX6_firstOf_17 rfl (fun h17 => absurd h17 (by omega)) (fun h17 => ?_)
        refine g_aload0 dX6_firstOf_20 ?_
        refine f_getr (r := 102) rfl (by decide) rfl rfl fl_X6_40 dX6_firstOf_21 ?_
        refine g_sipush dX6_firstOf_24 (by decide) ?_
        refine g_iload1 dX6_firstOf_27 ?_
        refine g_imul dX6_firstOf_28 ?_
        refine g_iload6 dX6_firstOf_29 ?_
        refine g_iadd dX6_firstOf_31 ?_
        refine f_iald rfl (by decide) ⟨by omega, by show _ < ((174960 : Nat) : Int); omega⟩ dX6_firstOf_32 ?_
        rw [hr _ (by omega) (by omega), if_neg hT]
        refine g_istore7 dX6_firstOf_33 rfl (by decide) ?_
        refine g_iload7 dX6_firstOf_35 ?_
        refine g_ldc (v := Int32.ofInt (1000000)) kc_X6_159 dX6_firstOf_37 ?_
        refine g_icmp_lt ⟨by omega, by omega⟩ ⟨by omega, by omega⟩ (tgt := 45) dX6_firstOf_39 rfl (fun h39 => absurd h39 (by omega)) (fun h39 => ?_)
        refine g_goto (tgt := 87) dX6_firstOf_42 rfl ?_
        refine g_iinc6 dX6_firstOf_87 rfl (by decide) ?_
        refine g_goto (tgt := 14) dX6_firstOf_90 rfl ?_
        exact ih (by omega) _ _ _ _ _ (by push_cast; omega) (by rw [pq_n hT]) (by rw [pq_n hT])
    · refine g_iload6 dX6_firstOf_14 ?_
      refine g_iload3 dX6_firstOf_16 ?_
      refine g_icmp_ge ⟨by omega, by omega⟩ ⟨by omega, by omega⟩ (tgt := 93) dX6_firstOf_17 rfl (fun h17 => ?_) (fun h17 => absurd h17 (by omega))
      refine g_iload4 dX6_firstOf_93 ?_
      refine g_iretI rfl dX6_firstOf_95 ?_
      have e9 : q = 2 * 3 ^ wH s := by omega
      subst e9
      exact Fw.ret (by rw [hfin])
  refine g_aload0 dX6_firstOf_0 ?_
  refine f_cV0w (many_ok ho hs) rfl (by decide) rfl oY_X6_many oI_X6_many lk_X6_80 rfl dX6_firstOf_1 rfl (Or.inl rfl) ?_
  refine g_istore3 dX6_firstOf_4 rfl (by decide) ?_
  refine g_iconst dX6_firstOf_5 ?_
  refine g_istore4 dX6_firstOf_6 rfl (by decide) ?_
  refine g_iconst dX6_firstOf_8 ?_
  refine g_istore5 dX6_firstOf_9 rfl (by decide) ?_
  refine g_iconst dX6_firstOf_11 ?_
  refine g_istore6 dX6_firstOf_12 rfl (by decide) ?_
  exact loop 0 (Nat.zero_le _) _ _ _ _ _ rfl rfl rfl
theorem f_cV4q {y y2 : yT} {k n : Nat} {Φ : mO → mM → Prop} {pc : Nat} {L : List (Option Value)} {st : List Value} {idx k2 n2 b ci : Nat} {a1 a2 a3 a4 : Value} {V : Value} {R : sT → (Nat → Nat) → Prop} (hR : Fn g y2 k2 n2 (.ref b :: [a1, a2, a3, a4]) σ l (fun o τ l' => o = .inl (some V) ∧ R τ l')) (hk : kd b = ci + 10) (hb : b < 110) (hci : (CL[ci]?).map (·.1) = some (yN y2).cls) (hy : okY y2 4) (hI : okI y2) (hlk : LK (yN y).cls idx (yN y2)) (hF : fitY y y2 = true) (hd : decode (yB y) pc = .ok (.invokevirtual idx, 3)) (hk2 : k2 ≤ k) (hn2 : n2 ≤ n) (hcat : Nat.ble ((st.map fun v => v.category).sum) 8 = true) (hok : okF y2 110 L st)
    (kr : ∀ σ' l', R σ' l' → GW g y (k - k2) (n - n2) Φ (pc + 3) L (V :: st) (mem σ' l')) : GW g y k n Φ pc L (a4 :: a3 :: a2 :: a1 :: .ref b :: st) (mem σ l) :=
  f_cV4n hR hk hb hci hy hI hlk hF hd hk2 hn2 hcat hok (fun v σ' l' ⟨e, h⟩ => by cases e; exact kr σ' l' h) (fun e9 σ' l' ⟨e, h⟩ => by cases e)
theorem pk_addn {f c : Int → Int} {L : List Nat} : pkA (fun q => f q + (if (-1 : Int) = -1 then 0 else c q)) L = pkA f L := by
  congr 1
  funext q
  rw [if_pos rfl]
  omega
theorem pkA_in {F TE : Int → Int} {t : Int} {N : Nat} (hne : (EL TE t N).length ≠ 0) (hF : ∀ q, F q < 2000000) : ∃ p : Nat, p < N ∧ TE p = t ∧ pkA F (EL TE t N) = (p : Int) := by
  obtain ⟨i, h1, h2, h3⟩ := pkA_min (f := F) hne (fun i _ => hF _)
  have h4 := EL_lt (getD_some h1)
  exact ⟨_, h4.1, h4.2.1, h2⟩
theorem lk_hg {s TE : Int → Int} {b : Int} (h : lkP s TE b 0) : hgB s b (wN s) = true := by
  refine hgB_all (fun k hk => ?_)
  rcases h k (Nat.zero_le _) hk with z | z
  · exact Or.inl z
  · right
    apply Classical.byContradiction
    intro y
    apply z
    unfold EP
    rw [if_neg y]
    rfl
theorem hg_0 {B : Int} {s : Int → Int} (ho : SOK B s) : hgB s 0 (wN s) = true := hgB_all (fun k hk => by
  have h := ho.tune k (by omega) (by have := ho.nI; omega)
  omega)
def costS (s TE : Int → Int) (b : Int) : Int := if hgB s b (wN s) = true then wOc s TE b else -1
theorem costS_e {B : Int} {s TE : Int → Int} {b : Int} (ho : SOK B s) : wOc s TE b = if hgB s b (wN s) = true then wOc s TE b else -1 := by
  by_cases c : hgB s b (wN s) = true
  · rw [if_pos c]
  · rw [if_neg c]
    unfold wOc
    rw [if_pos (fun z => c (lk_hg ((lk_ok (Nat.zero_le _)).mp z)))]
theorem reckons_y {B : Int} {s : Int → Int} (ho : SOK B s) (hs : σ 93 = s) (hL : LdP σ s) {fr : Nat} {f b m mc : Int} (hf : f = (fr : Int)) (hfr : fr ≤ wN s) (hb : -12 ≤ b ∧ b ≤ 12) (hm : R32 m) (hmc : R32 mc) (hg : hgB s b (wN s) = true) (hk : wLk s (wTE s m mc) b fr = -1) : Fn g zX6_reckons 0 0 [.ref 92, iv f, iv b, iv m, iv mc] σ l (fun o τ l' => o = .inl (some (iv 1)) ∧ (l' = l ∧ (∀ a, a ≠ 102 → a ≠ 103 → τ a = σ a) ∧ RK τ s (wTE s m mc) b fr)) := by
  subst hf
  refine Fn.mono (reckons_m ho hs hL hfr hb hm hmc hg) (fun o τ l' ⟨h1, h2, h3, h4⟩ => ?_)
  exact ⟨by rw [h2, bvT hk], h1, h3, h4 hk⟩
theorem reckons_n {B : Int} {s : Int → Int} (ho : SOK B s) (hs : σ 93 = s) (hL : LdP σ s) {fr : Nat} {f b m mc : Int} (hf : f = (fr : Int)) (hfr : fr ≤ wN s) (hb : -12 ≤ b ∧ b ≤ 12) (hm : R32 m) (hmc : R32 mc) (hg : hgB s b (wN s) = true) (hk : ¬ wLk s (wTE s m mc) b fr = -1) : Fn g zX6_reckons 0 0 [.ref 92, iv f, iv b, iv m, iv mc] σ l (fun o τ l' => o = .inl (some (iv 0)) ∧ (l' = l ∧ (∀ a, a ≠ 102 → a ≠ 103 → τ a = σ a))) := by
  subst hf
  refine Fn.mono (reckons_m ho hs hL hfr hb hm hmc hg) (fun o τ l' ⟨h1, h2, h3, h4⟩ => ?_)
  exact ⟨by rw [h2, bvF hk], h1, h3⟩
theorem costFor_m {B : Int} {s : Int → Int} (ho : SOK B s) (hs : σ 93 = s) (hL : LdP σ s) {b m mc : Int} (hb : -12 ≤ b ∧ b ≤ 12) (hm : R32 m) (hmc : R32 mc) : Fn g zX6_costFor 0 0 [.ref 92, iv b, iv m, iv mc] σ l (fun o τ l' => o = .inl (some (iv (wOc s (wTE s m mc) b))) ∧ (l' = l ∧ ∀ a, a ≠ 102 → a ≠ 103 → τ a = σ a)) := by
  have hI := ho.nI
  have hn := ho.n40
  have hp3 := p3_le ho.h7
  have hp0 := p3_pos (wH s)
  have hcs := canShift_m (g := g) (l := l) ho hs hb
  refine Fn.of [some (.ref 92), some (iv b), some (iv m), some (iv mc), none, none] rfl (by decide) (Nat.le_of_ble_eq_true rfl) rfl ?_
  by_cases hg : hgB s b (wN s) = true
  · by_cases hk : wLk s (wTE s m mc) b 0 = -1
    · have hok := (lk_ok (Nat.zero_le _)).mp hk
      have hA2 : ∀ (k : Nat) (p : Int), 0 ≤ wAq s (wTE s m mc) b k p ∧ wAq s (wTE s m mc) b k p ≤ 2880 := fun k p => ⟨(wAq_r ho k p).1, wAq_2880 ho (fun i hi hn => hok i (Nat.zero_le _) hn : lkP s (wTE s m mc) b (k + 1)) p⟩
      have main : ∀ ρ : sT, (∀ a, a ≠ 102 → a ≠ 103 → ρ a = σ a) → RK ρ s (wTE s m mc) b 0 → FW g zX6_costFor 0 0 (fun o τ l' => o = .inl (some (iv (wOc s (wTE s m mc) b))) ∧ (l' = l ∧ ∀ a, a ≠ 102 → a ≠ 103 → τ a = σ a)) 21 [some (.ref 92), some (iv b), some (iv m), some (iv mc), none, none] [] ρ l := by
        intro ρ hρ hrk
        have hsρ : ρ 93 = s := (hρ 93 (by decide) (by decide)).trans hs
        have loop : ∀ q : Nat, q ≤ wN s → ∀ (i x : Int), i = (q : Int) → x = smR s (wTE s m mc) b q → FW g zX6_costFor 0 0 (fun o τ l' => o = .inl (some (iv (wOc s (wTE s m mc) b))) ∧ (l' = l ∧ ∀ a, a ≠ 102 → a ≠ 103 → τ a = σ a)) 27 [some (.ref 92), some (iv b), some (iv m), some (iv mc), some (iv x), some (iv i)] [] ρ l := by
          refine loopUp _ (fun q hq2 ih i x hi hx => ?_)
          subst hi
          have hsm : smR s (wTE s m mc) b (q + 1) = smR s (wTE s m mc) b q + (if wTu s q ≠ -1 ∧ (q = 0 ∨ wTu s ((q : Int) - 1) = -1) then wAq s (wTE s m mc) b q (pkA (wAq s (wTE s m mc) b q) (wE (wTE s m mc) (wTu s) (wH s) b q)) else 0) := rfl
          refine g_iload5 dX6_costFor_27 ?_
          refine g_aload0 dX6_costFor_29 ?_
          refine f_getr (r := 93) rfl (by decide) rfl rfl fl_X6_7 dX6_costFor_30 ?_
          try rw [hsρ]
          refine g_bipush dX6_costFor_33 (by decide) ?_
          refine f_iald rfl (by decide) ⟨by omega, by show _ < ((67 : Nat) : Int); omega⟩ dX6_costFor_35 ?_
          try rw [hsρ]
          rw [hI]
          refine g_icmp_ge ⟨by omega, by omega⟩ ⟨by omega, by omega⟩ (tgt := 94) dX6_costFor_36 rfl (fun h36 => ?_) (fun h36 => ?_)
          · refine g_iload4 dX6_costFor_94 ?_
            refine g_iretI rfl dX6_costFor_96 ?_
            have e9 : q = wN s := by omega
            subst e9
            exact fn_ret ⟨by rw [hx, ← wOc_sm ho hok], rfl, hρ⟩
          · refine g_aload0 dX6_costFor_39 ?_
            refine g_iload5 dX6_costFor_40 ?_
            refine f_cV1w (isNoted_m ho hsρ (k := q) (by omega)) rfl (by decide) rfl oY_X6_isNoted oI_X6_isNoted lk_X6_152 rfl dX6_costFor_42 rfl (Or.inl rfl) ?_
            refine g_ifeqB (tgt := 88) dX6_costFor_45 rfl (fun h45 => ?_) (fun h45 => ?_)
            · refine g_iinc5 dX6_costFor_88 rfl (by decide) ?_
              refine g_goto (tgt := 27) dX6_costFor_91 rfl ?_
              first
                | (have y45 : ¬ (wTu s q ≠ -1) := fun z => h45 ⟨by omega, z⟩
                   exact ih (by omega) _ _ (by push_cast; omega) (by rw [hsm, if_neg (fun z => y45 z.1), Int.add_zero]; exact hx))
                | (have e0 : q = 0 := by omega
                   exact ih (by omega) _ _ (by push_cast; omega) (by rw [hsm, if_pos ⟨h45.2, Or.inl e0⟩, hx]))
                | (have y61 := h61.2
                   exact ih (by omega) _ _ (by push_cast; omega) (by rw [hsm, if_neg (fun z => z.2.elim (fun y => h50 (by omega)) y61), Int.add_zero]; exact hx))
                | (have y61 : wTu s ((q : Int) - 1) = -1 := Classical.byContradiction (fun z => h61 ⟨by omega, z⟩)
                   exact ih (by omega) _ _ (by push_cast; omega) (by rw [hsm, if_pos ⟨h45.2, Or.inr y61⟩, hx]))
            · refine g_iload5 dX6_costFor_48 ?_
              refine g_if_eq ⟨by omega, by omega⟩ (tgt := 64) dX6_costFor_50 rfl (fun h50 => ?_) (fun h50 => ?_)
              · have hin := (hok q (Nat.zero_le _) h45.1).resolve_left h45.2
                have hgj := (hgB_at h45.1 hg).resolve_left h45.2
                have hEP : EP (wTE s m mc) (2 * 3 ^ wH s) (wTu s q + b) = EL (wTE s m mc) (wTu s q + b) (2 * 3 ^ wH s) := by unfold EP; rw [if_pos hgj]
                rw [hEP] at hin
                obtain ⟨p, hp1, hp2, hpk⟩ := pkA_in (F := wAq s (wTE s m mc) b q) hin (fun x => by have := hA2 q x; omega)
                have hwE : wE (wTE s m mc) (wTu s) (wH s) b q = EL (wTE s m mc) (wTu s q + b) (2 * 3 ^ wH s) := hEP
                rw [hwE, hpk] at hsm
                have hfo : Fw g zX6_firstOf [.ref 92, iv (q : Int), iv (-1)] ρ l (iv (p : Int)) := by
                  have h := firstOf_m (g := g) (l := l) ho hsρ (k := q) (by omega) (pv := -1) (Or.inl rfl) (A := wAq s (wTE s m mc) b q) (TE := (wTE s m mc)) (t := wTu s q + b) (hA2 q) (fun p a b2 => hrk q (Nat.zero_le _) h45.1 h45.2 p a b2)
                  rw [pk_addn, hpk] at h
                  exact h
                refine g_iload4 dX6_costFor_64 ?_
                refine g_aload0 dX6_costFor_66 ?_
                refine f_getr (r := 102) rfl (by decide) rfl rfl fl_X6_40 dX6_costFor_67 ?_
                try rw [hsρ]
                refine g_sipush dX6_costFor_70 (by decide) ?_
                refine g_iload5 dX6_costFor_73 ?_
                refine g_imul dX6_costFor_75 ?_
                refine g_aload0 dX6_costFor_76 ?_
                refine g_iload5 dX6_costFor_77 ?_
                refine g_iconst dX6_costFor_79 ?_
                refine f_cV2w (hfo) rfl (by decide) rfl oY_X6_firstOf oI_X6_firstOf lk_X6_174 rfl dX6_costFor_80 rfl (Or.inl rfl) ?_
                refine g_iadd dX6_costFor_83 ?_
                refine f_iald rfl (by decide) ⟨by omega, by show _ < ((174960 : Nat) : Int); omega⟩ dX6_costFor_84 ?_
                try rw [hsρ]
                rw [hrk q (Nat.zero_le _) h45.1 h45.2 _ (by omega) (by omega), if_pos hp2]
                refine g_iadd dX6_costFor_85 ?_
                refine g_istore4 dX6_costFor_86 rfl (by decide) ?_
                refine g_iinc5 dX6_costFor_88 rfl (by decide) ?_
                refine g_goto (tgt := 27) dX6_costFor_91 rfl ?_
                first
                  | (have y45 : ¬ (wTu s q ≠ -1) := fun z => h45 ⟨by omega, z⟩
                     exact ih (by omega) _ _ (by push_cast; omega) (by rw [hsm, if_neg (fun z => y45 z.1), Int.add_zero]; exact hx))
                  | (have e0 : q = 0 := by omega
                     exact ih (by omega) _ _ (by push_cast; omega) (by rw [hsm, if_pos ⟨h45.2, Or.inl e0⟩, hx]))
                  | (have y61 := h61.2
                     exact ih (by omega) _ _ (by push_cast; omega) (by rw [hsm, if_neg (fun z => z.2.elim (fun y => h50 (by omega)) y61), Int.add_zero]; exact hx))
                  | (have y61 : wTu s ((q : Int) - 1) = -1 := Classical.byContradiction (fun z => h61 ⟨by omega, z⟩)
                     exact ih (by omega) _ _ (by push_cast; omega) (by rw [hsm, if_pos ⟨h45.2, Or.inr y61⟩, hx]))
              · have hnp : Fw g zX6_isNoted [.ref 92, iv ((q : Int) - 1)] ρ l (bv (q - 1 < wN s ∧ wTu s ((q : Int) - 1) ≠ -1)) := by
                  have h := isNoted_m (g := g) (l := l) ho hsρ (k := q - 1) (by omega)
                  rw [show ((q - 1 : Nat) : Int) = (q : Int) - 1 from by omega] at h
                  exact h
                refine g_aload0 dX6_costFor_53 ?_
                refine g_iload5 dX6_costFor_54 ?_
                refine g_iconst dX6_costFor_56 ?_
                refine g_isub dX6_costFor_57 ?_
                refine f_cV1w (hnp) rfl (by decide) rfl oY_X6_isNoted oI_X6_isNoted lk_X6_152 rfl dX6_costFor_58 rfl (Or.inl rfl) ?_
                refine g_ifneB (tgt := 88) dX6_costFor_61 rfl (fun h61 => ?_) (fun h61 => ?_)
                · refine g_iinc5 dX6_costFor_88 rfl (by decide) ?_
                  refine g_goto (tgt := 27) dX6_costFor_91 rfl ?_
                  first
                    | (have y45 : ¬ (wTu s q ≠ -1) := fun z => h45 ⟨by omega, z⟩
                       exact ih (by omega) _ _ (by push_cast; omega) (by rw [hsm, if_neg (fun z => y45 z.1), Int.add_zero]; exact hx))
                    | (have e0 : q = 0 := by omega
                       exact ih (by omega) _ _ (by push_cast; omega) (by rw [hsm, if_pos ⟨h45.2, Or.inl e0⟩, hx]))
                    | (have y61 := h61.2
                       exact ih (by omega) _ _ (by push_cast; omega) (by rw [hsm, if_neg (fun z => z.2.elim (fun y => h50 (by omega)) y61), Int.add_zero]; exact hx))
                    | (have y61 : wTu s ((q : Int) - 1) = -1 := Classical.byContradiction (fun z => h61 ⟨by omega, z⟩)
                       exact ih (by omega) _ _ (by push_cast; omega) (by rw [hsm, if_pos ⟨h45.2, Or.inr y61⟩, hx]))
                · have hin := (hok q (Nat.zero_le _) h45.1).resolve_left h45.2
                  have hgj := (hgB_at h45.1 hg).resolve_left h45.2
                  have hEP : EP (wTE s m mc) (2 * 3 ^ wH s) (wTu s q + b) = EL (wTE s m mc) (wTu s q + b) (2 * 3 ^ wH s) := by unfold EP; rw [if_pos hgj]
                  rw [hEP] at hin
                  obtain ⟨p, hp1, hp2, hpk⟩ := pkA_in (F := wAq s (wTE s m mc) b q) hin (fun x => by have := hA2 q x; omega)
                  have hwE : wE (wTE s m mc) (wTu s) (wH s) b q = EL (wTE s m mc) (wTu s q + b) (2 * 3 ^ wH s) := hEP
                  rw [hwE, hpk] at hsm
                  have hfo : Fw g zX6_firstOf [.ref 92, iv (q : Int), iv (-1)] ρ l (iv (p : Int)) := by
                    have h := firstOf_m (g := g) (l := l) ho hsρ (k := q) (by omega) (pv := -1) (Or.inl rfl) (A := wAq s (wTE s m mc) b q) (TE := (wTE s m mc)) (t := wTu s q + b) (hA2 q) (fun p a b2 => hrk q (Nat.zero_le _) h45.1 h45.2 p a b2)
                    rw [pk_addn, hpk] at h
                    exact h
                  refine g_iload4 dX6_costFor_64 ?_
                  refine g_aload0 dX6_costFor_66 ?_
                  refine f_getr (r := 102) rfl (by decide) rfl rfl fl_X6_40 dX6_costFor_67 ?_
                  try rw [hsρ]
                  refine g_sipush dX6_costFor_70 (by decide) ?_
                  refine g_iload5 dX6_costFor_73 ?_
                  refine g_imul dX6_costFor_75 ?_
                  refine g_aload0 dX6_costFor_76 ?_
                  refine g_iload5 dX6_costFor_77 ?_
                  refine g_iconst dX6_costFor_79 ?_
                  refine f_cV2w (hfo) rfl (by decide) rfl oY_X6_firstOf oI_X6_firstOf lk_X6_174 rfl dX6_costFor_80 rfl (Or.inl rfl) ?_
                  refine g_iadd dX6_costFor_83 ?_
                  refine f_iald rfl (by decide) ⟨by omega, by show _ < ((174960 : Nat) : Int); omega⟩ dX6_costFor_84 ?_
                  try rw [hsρ]
                  rw [hrk q (Nat.zero_le _) h45.1 h45.2 _ (by omega) (by omega), if_pos hp2]
                  refine g_iadd dX6_costFor_85 ?_
                  refine g_istore4 dX6_costFor_86 rfl (by decide) ?_
                  refine g_iinc5 dX6_costFor_88 rfl (by decide) ?_
                  refine g_goto (tgt := 27) dX6_costFor_91 rfl ?_
                  first
                    | (have y45 : ¬ (wTu s q ≠ -1) := fun z => h45 ⟨by omega, z⟩
                       exact ih (by omega) _ _ (by push_cast; omega) (by rw [hsm, if_neg (fun z => y45 z.1), Int.add_zero]; exact hx))
                    | (have e0 : q = 0 := by omega
                       exact ih (by omega) _ _ (by push_cast; omega) (by rw [hsm, if_pos ⟨h45.2, Or.inl e0⟩, hx]))
                    | (have y61 := h61.2
                       exact ih (by omega) _ _ (by push_cast; omega) (by rw [hsm, if_neg (fun z => z.2.elim (fun y => h50 (by omega)) y61), Int.add_zero]; exact hx))
                    | (have y61 : wTu s ((q : Int) - 1) = -1 := Classical.byContradiction (fun z => h61 ⟨by omega, z⟩)
                       exact ih (by omega) _ _ (by push_cast; omega) (by rw [hsm, if_pos ⟨h45.2, Or.inr y61⟩, hx]))
        refine g_iconst dX6_costFor_21 ?_
        refine g_istore4 dX6_costFor_22 rfl (by decide) ?_
        refine g_iconst dX6_costFor_24 ?_
        refine g_istore5 dX6_costFor_25 rfl (by decide) ?_
        exact loop 0 (Nat.zero_le _) _ _ rfl rfl
      refine g_aload0 dX6_costFor_0 ?_
      refine g_iload1 dX6_costFor_1 ?_
      refine f_cV1w (hcs) rfl (by decide) rfl oY_X6_canShift oI_X6_canShift lk_X6_168 rfl dX6_costFor_2 rfl (Or.inl rfl) ?_
      refine g_ifeqB (tgt := 19) dX6_costFor_5 rfl (fun h5 => absurd h5 (fun z => z hg)) (fun h5 => ?_)
      refine g_aload0 dX6_costFor_8 ?_
      refine g_iconst dX6_costFor_9 ?_
      refine g_iload1 dX6_costFor_10 ?_
      refine g_iload2 dX6_costFor_11 ?_
      refine g_iload3 dX6_costFor_12 ?_
      refine f_cV4q (reckons_y (fr := 0) ho hs hL rfl (Nat.zero_le _) hb hm hmc hg hk) rfl (by decide) rfl oY_X6_reckons oI_X6_reckons lk_X6_171 rfl dX6_costFor_13 (by omega) (by omega) rfl (Or.inl rfl) (fun σ13 l13 h13 => ?_)
      refine g_if_ne ⟨by decide, by decide⟩ (tgt := 21) dX6_costFor_16 rfl (fun h16 => ?_) (fun h16 => absurd h16 (by decide))
      have e9 := h13.1
      subst e9
      exact main _ h13.2.1 h13.2.2
    · refine g_aload0 dX6_costFor_0 ?_
      refine g_iload1 dX6_costFor_1 ?_
      refine f_cV1w (hcs) rfl (by decide) rfl oY_X6_canShift oI_X6_canShift lk_X6_168 rfl dX6_costFor_2 rfl (Or.inl rfl) ?_
      refine g_ifeqB (tgt := 19) dX6_costFor_5 rfl (fun h5 => absurd h5 (fun z => z hg)) (fun h5 => ?_)
      refine g_aload0 dX6_costFor_8 ?_
      refine g_iconst dX6_costFor_9 ?_
      refine g_iload1 dX6_costFor_10 ?_
      refine g_iload2 dX6_costFor_11 ?_
      refine g_iload3 dX6_costFor_12 ?_
      refine f_cV4q (reckons_n (fr := 0) ho hs hL rfl (Nat.zero_le _) hb hm hmc hg hk) rfl (by decide) rfl oY_X6_reckons oI_X6_reckons lk_X6_171 rfl dX6_costFor_13 (by omega) (by omega) rfl (Or.inl rfl) (fun σ13 l13 h13 => ?_)
      refine g_if_ne ⟨by decide, by decide⟩ (tgt := 21) dX6_costFor_16 rfl (fun h16 => absurd h16 (by decide)) (fun h16 => ?_)
      refine g_iconst dX6_costFor_19 ?_
      refine g_iretI rfl dX6_costFor_20 ?_
      exact fn_ret ⟨by unfold wOc; rw [if_pos hk], h13.1, h13.2⟩
  · refine g_aload0 dX6_costFor_0 ?_
    refine g_iload1 dX6_costFor_1 ?_
    refine f_cV1w (hcs) rfl (by decide) rfl oY_X6_canShift oI_X6_canShift lk_X6_168 rfl dX6_costFor_2 rfl (Or.inl rfl) ?_
    refine g_ifeqB (tgt := 19) dX6_costFor_5 rfl (fun h5 => ?_) (fun h5 => absurd h5 hg)
    refine g_iconst dX6_costFor_19 ?_
    refine g_iretI rfl dX6_costFor_20 ?_
    exact fn_ret ⟨by rw [costS_e ho, if_neg hg], rfl, fun _ _ _ => rfl⟩
theorem wWp_s (s : Int → Int) (k : Nat) : wWp s (k + 1) = if wTu s k = -1 then -1 else pkA (fun q => wAq s (wTe s) 0 k q + (if wWp s k = -1 then 0 else wCo s (wWp s k) q)) (wE (wTe s) (wTu s) (wH s) 0 k) := rfl
theorem findsWay_m {B : Int} {s : Int → Int} (ho : SOK B s) (hs : σ 93 = s) : Fn g zX6_findsWay 0 0 [.ref 92] σ l (fun o τ l' => o = .inl (some (bv (wLk s (wTe s) 0 0 = -1))) ∧ (l' = l ∧ Md σ τ ∧ τ 92 = σ 92 ∧ LdP τ s ∧ (wLk s (wTe s) 0 0 = -1 → ∀ k : Nat, k < wN s → τ 104 k = wWp s (k + 1)))) := by
  have hI := ho.nI
  have hn := ho.n40
  have hp3 := p3_le ho.h7
  have hp0 := p3_pos (wH s)
  have hb4 := ho.halves
  have hb5 := ho.crosses
  have hg := hg_0 ho
  refine Fn.of [some (.ref 92), none] rfl (by decide) (Nat.le_of_ble_eq_true rfl) rfl ?_
  have fin0 : ∀ (σ1 τ : sT), Md σ σ1 → LdP σ1 s → σ1 92 = σ 92 → (∀ a, a ≠ 102 → a ≠ 103 → τ a = σ1 a) → Md σ τ ∧ τ 92 = σ 92 ∧ LdP τ s := by
    intro σ1 τ h1 h2 h3 h4
    refine ⟨h1.trans ⟨fun a a0 a1 => h4 a (by omega) (by omega), fun j _ => by rw [h4 92 (by decide) (by decide)]⟩, (h4 92 (by decide) (by decide)).trans h3, ⟨fun k a b => by rw [h4 98 (by decide) (by decide)]; exact h2.1 k a b, fun p a b => by rw [h4 99 (by decide) (by decide), h4 100 (by decide) (by decide), h4 101 (by decide) (by decide)]; exact h2.2 p a b⟩⟩
  by_cases hk : wLk s (wTe s) 0 0 = -1
  · have hok := (lk_ok (Nat.zero_le _)).mp hk
    have hA2 : ∀ (k : Nat) (p : Int), 0 ≤ wAq s (wTe s) 0 k p ∧ wAq s (wTe s) 0 k p ≤ 2880 := fun k p => ⟨(wAq_r ho k p).1, wAq_2880 ho (fun i hi hn => hok i (Nat.zero_le _) hn : lkP s (wTe s) 0 (k + 1)) p⟩
    have main : ∀ ρ : sT, Md σ ρ → ρ 92 = σ 92 → LdP ρ s → RK ρ s (wTe s) 0 0 → FW g zX6_findsWay 0 0 (fun o τ l' => o = .inl (some (bv (wLk s (wTe s) 0 0 = -1))) ∧ (l' = l ∧ Md σ τ ∧ τ 92 = σ 92 ∧ LdP τ s ∧ (wLk s (wTe s) 0 0 = -1 → ∀ k : Nat, k < wN s → τ 104 k = wWp s (k + 1)))) 27 [some (.ref 92), none] [] ρ l := by
      intro ρ hM h92 hLd hrk
      have loop : ∀ q : Nat, q ≤ wN s → ∀ (i : Int) (ρ2 : sT), i = (q : Int) → (∀ a, a ≠ 104 → ρ2 a = ρ a) → (∀ k : Nat, k < q → ρ2 104 k = wWp s (k + 1)) → FW g zX6_findsWay 0 0 (fun o τ l' => o = .inl (some (bv (wLk s (wTe s) 0 0 = -1))) ∧ (l' = l ∧ Md σ τ ∧ τ 92 = σ 92 ∧ LdP τ s ∧ (wLk s (wTe s) 0 0 = -1 → ∀ k : Nat, k < wN s → τ 104 k = wWp s (k + 1)))) 29 [some (.ref 92), some (iv i)] [] ρ2 l := by
        refine loopUp _ (fun q hq2 ih i ρ2 hi hf hv => ?_)
        subst hi
        have hsρ : ρ2 93 = s := (hf 93 (by decide)).trans (hM.s hs)
        have hws := wWp_s s q
        have hstep : ∀ v : Int, v = wWp s (q + 1) → ∀ k : Nat, k < q + 1 → up ρ2 104 (q : Int) v 104 k = wWp s (k + 1) := by
          intro v hv2 k hk2
          by_cases e : k = q
          · subst e; rw [up_eq, hv2]
          · rw [up_ne (fun z => by omega)]; exact hv k (by omega)
        refine g_iload1 dX6_findsWay_29 ?_
        refine g_aload0 dX6_findsWay_30 ?_
        refine f_getr (r := 93) rfl (by decide) rfl rfl fl_X6_7 dX6_findsWay_31 ?_
        try rw [hsρ]
        refine g_bipush dX6_findsWay_34 (by decide) ?_
        refine f_iald rfl (by decide) ⟨by omega, by show _ < ((67 : Nat) : Int); omega⟩ dX6_findsWay_36 ?_
        try rw [hsρ]
        rw [hI]
        refine g_icmp_ge ⟨by omega, by omega⟩ ⟨by omega, by omega⟩ (tgt := 85) dX6_findsWay_37 rfl (fun h37 => ?_) (fun h37 => ?_)
        · refine g_iconst dX6_findsWay_85 ?_
          refine g_iretB (Or.inr rfl) rfl dX6_findsWay_86 ?_
          have e9 : q = wN s := by omega
          subst e9
          exact fn_ret ⟨by rw [bvT hk], rfl, hM.trans ⟨fun a a0 a1 => hf a (by omega), fun j _ => by rw [hf 92 (by decide)]⟩, (hf 92 (by decide)).trans h92, ⟨fun k a b => by rw [hf 98 (by decide)]; exact hLd.1 k a b, fun p a b => by rw [hf 99 (by decide), hf 100 (by decide), hf 101 (by decide)]; exact hLd.2 p a b⟩, fun _ => hv⟩
        · refine g_aload0 dX6_findsWay_40 ?_
          refine f_getr (r := 104) rfl (by decide) rfl rfl fl_X6_46 dX6_findsWay_41 ?_
          try rw [hsρ]
          refine g_iload1 dX6_findsWay_44 ?_
          refine g_aload0 dX6_findsWay_45 ?_
          refine g_iload1 dX6_findsWay_46 ?_
          refine f_cV1w (isNoted_m ho hsρ (k := q) (by omega)) rfl (by decide) rfl oY_X6_isNoted oI_X6_isNoted lk_X6_152 rfl dX6_findsWay_47 rfl (Or.inl rfl) ?_
          refine g_ifeqB (tgt := 77) dX6_findsWay_50 rfl (fun h50 => ?_) (fun h50 => ?_)
          · refine g_iconst dX6_findsWay_77 ?_
            refine f_iast rfl (by decide) ⟨by omega, by show _ < ((40 : Nat) : Int); omega⟩ dX6_findsWay_78 ?_
            refine g_iinc1 dX6_findsWay_79 rfl (by decide) ?_
            refine g_goto (tgt := 29) dX6_findsWay_82 rfl ?_
            refine ih (by omega) _ _ (by omega) (fun a ha => by rw [up_n ha]; exact hf a ha) (hstep _ ?_)
            first
              | rfl
              | (rw [hws, if_pos (Classical.byContradiction (fun z => h50 ⟨by omega, z⟩))])
          · have hin := (hok q (Nat.zero_le _) h50.1).resolve_left h50.2
            have hgj := (hgB_at h50.1 hg).resolve_left h50.2
            have hEP : EP (wTe s) (2 * 3 ^ wH s) (wTu s q + 0) = EL (wTe s) (wTu s q + 0) (2 * 3 ^ wH s) := by unfold EP; rw [if_pos hgj]
            rw [hEP] at hin
            have hwE : wE (wTe s) (wTu s) (wH s) 0 q = EL (wTe s) (wTu s q + 0) (2 * 3 ^ wH s) := hEP
            rw [if_neg h50.2, hwE] at hws
            have hpv := wWp_rng ho q
            have hfo : Fw g zX6_firstOf [.ref 92, iv (q : Int), iv (wWp s q)] ρ2 l (iv (wWp s (q + 1))) := by
              have h := firstOf_m (g := g) (l := l) ho hsρ (k := q) (by omega) (pv := wWp s q) (by omega) (A := wAq s (wTe s) 0 q) (TE := (wTe s)) (t := wTu s q + 0) (hA2 q) (fun p a b2 => by rw [hf 102 (by decide)]; exact hrk q (Nat.zero_le _) h50.1 h50.2 p a b2)
              rw [← hws] at h
              exact h
            refine g_aload0 dX6_findsWay_53 ?_
            refine g_iload1 dX6_findsWay_54 ?_
            refine g_iload1 dX6_findsWay_55 ?_
            refine g_if_ne ⟨by omega, by omega⟩ (tgt := 63) dX6_findsWay_56 rfl (fun h56 => ?_) (fun h56 => ?_)
            · refine g_aload0 dX6_findsWay_63 ?_
              refine f_getr (r := 104) rfl (by decide) rfl rfl fl_X6_46 dX6_findsWay_64 ?_
              try rw [hsρ]
              refine g_iload1 dX6_findsWay_67 ?_
              refine g_iconst dX6_findsWay_68 ?_
              refine g_isub dX6_findsWay_69 ?_
              refine f_iald rfl (by decide) ⟨by omega, by show _ < ((40 : Nat) : Int); omega⟩ dX6_findsWay_70 ?_
              try rw [hsρ]
              rw [show (q : Int) - 1 = ((q - 1 : Nat) : Int) from by omega, hv (q - 1) (by omega), show q - 1 + 1 = q from by omega]
              refine f_cV2w (hfo) rfl (by decide) rfl oY_X6_firstOf oI_X6_firstOf lk_X6_174 rfl dX6_findsWay_71 rfl (Or.inl rfl) ?_
              refine g_goto (tgt := 78) dX6_findsWay_74 rfl ?_
              refine f_iast rfl (by decide) ⟨by omega, by show _ < ((40 : Nat) : Int); omega⟩ dX6_findsWay_78 ?_
              refine g_iinc1 dX6_findsWay_79 rfl (by decide) ?_
              refine g_goto (tgt := 29) dX6_findsWay_82 rfl ?_
              refine ih (by omega) _ _ (by omega) (fun a ha => by rw [up_n ha]; exact hf a ha) (hstep _ ?_)
              first
                | rfl
                | (rw [hws, if_pos (Classical.byContradiction (fun z => h50 ⟨by omega, z⟩))])
            · have eq0 : q = 0 := by omega
              subst eq0
              refine g_iconst dX6_findsWay_59 ?_
              show GW g _ _ _ _ _ _ (iv (wWp s 0) :: _) _
              refine g_goto (tgt := 71) dX6_findsWay_60 rfl ?_
              refine f_cV2w (hfo) rfl (by decide) rfl oY_X6_firstOf oI_X6_firstOf lk_X6_174 rfl dX6_findsWay_71 rfl (Or.inl rfl) ?_
              refine g_goto (tgt := 78) dX6_findsWay_74 rfl ?_
              refine f_iast rfl (by decide) ⟨by omega, by show _ < ((40 : Nat) : Int); omega⟩ dX6_findsWay_78 ?_
              refine g_iinc1 dX6_findsWay_79 rfl (by decide) ?_
              refine g_goto (tgt := 29) dX6_findsWay_82 rfl ?_
              refine ih (by omega) _ _ (by omega) (fun a ha => by rw [up_n ha]; exact hf a ha) (hstep _ ?_)
              first
                | rfl
                | (rw [hws, if_pos (Classical.byContradiction (fun z => h50 ⟨by omega, z⟩))])
      refine g_iconst dX6_findsWay_27 ?_
      refine g_istore1 dX6_findsWay_28 rfl (by decide) ?_
      exact loop 0 (Nat.zero_le _) _ _ rfl (fun _ _ => rfl) (fun k hk => by omega)
    refine g_aload0 dX6_findsWay_0 ?_
    refine f_cV0m ((Fn.mono (laysPlays_m ho hs) (fun o τ l' h => ⟨h.1, h.2⟩) : Fu g zX6_laysPlays 0 0 [.ref 92] σ l (fun τ l' => l' = l ∧ Md σ τ ∧ LdP τ s ∧ τ 92 = σ 92))) rfl (by decide) rfl oY_X6_laysPlays oI_X6_laysPlays lk_X6_177 rfl dX6_findsWay_1 (by omega) (by omega) rfl (Or.inl rfl) (fun σ1 l1 h1 => ?_)
    have el := h1.1
    subst el
    have hs1 := h1.2.1.s hs
    refine g_aload0 dX6_findsWay_4 ?_
    refine g_iconst dX6_findsWay_5 ?_
    refine g_iconst dX6_findsWay_6 ?_
    refine g_aload0 dX6_findsWay_7 ?_
    refine f_getr (r := 93) rfl (by decide) rfl rfl fl_X6_7 dX6_findsWay_8 ?_
    try rw [hs1]
    refine g_iconst dX6_findsWay_11 ?_
    refine f_iald rfl (by decide) ⟨by omega, by show _ < ((67 : Nat) : Int); omega⟩ dX6_findsWay_12 ?_
    try rw [hs1]
    refine g_aload0 dX6_findsWay_13 ?_
    refine f_getr (r := 93) rfl (by decide) rfl rfl fl_X6_7 dX6_findsWay_14 ?_
    try rw [hs1]
    refine g_iconst dX6_findsWay_17 ?_
    refine f_iald rfl (by decide) ⟨by omega, by show _ < ((67 : Nat) : Int); omega⟩ dX6_findsWay_18 ?_
    try rw [hs1]
    refine f_cV4q (reckons_y (fr := 0) ho hs1 h1.2.2.1 rfl (Nat.zero_le _) (by omega) (by omega) (by omega) hg hk) rfl (by decide) rfl oY_X6_reckons oI_X6_reckons lk_X6_171 rfl dX6_findsWay_19 (by omega) (by omega) rfl (Or.inl rfl) (fun σ19 l19 h19 => ?_)
    refine g_if_ne ⟨by decide, by decide⟩ (tgt := 27) dX6_findsWay_22 rfl (fun h22 => ?_) (fun h22 => absurd h22 (by decide))
    have el2 := h19.1
    subst el2
    have hf0 := fin0 _ _ h1.2.1 h1.2.2.1 h1.2.2.2 h19.2.1
    exact main _ hf0.1 hf0.2.1 hf0.2.2 h19.2.2
  · refine g_aload0 dX6_findsWay_0 ?_
    refine f_cV0m ((Fn.mono (laysPlays_m ho hs) (fun o τ l' h => ⟨h.1, h.2⟩) : Fu g zX6_laysPlays 0 0 [.ref 92] σ l (fun τ l' => l' = l ∧ Md σ τ ∧ LdP τ s ∧ τ 92 = σ 92))) rfl (by decide) rfl oY_X6_laysPlays oI_X6_laysPlays lk_X6_177 rfl dX6_findsWay_1 (by omega) (by omega) rfl (Or.inl rfl) (fun σ1 l1 h1 => ?_)
    have el := h1.1
    subst el
    have hs1 := h1.2.1.s hs
    refine g_aload0 dX6_findsWay_4 ?_
    refine g_iconst dX6_findsWay_5 ?_
    refine g_iconst dX6_findsWay_6 ?_
    refine g_aload0 dX6_findsWay_7 ?_
    refine f_getr (r := 93) rfl (by decide) rfl rfl fl_X6_7 dX6_findsWay_8 ?_
    try rw [hs1]
    refine g_iconst dX6_findsWay_11 ?_
    refine f_iald rfl (by decide) ⟨by omega, by show _ < ((67 : Nat) : Int); omega⟩ dX6_findsWay_12 ?_
    try rw [hs1]
    refine g_aload0 dX6_findsWay_13 ?_
    refine f_getr (r := 93) rfl (by decide) rfl rfl fl_X6_7 dX6_findsWay_14 ?_
    try rw [hs1]
    refine g_iconst dX6_findsWay_17 ?_
    refine f_iald rfl (by decide) ⟨by omega, by show _ < ((67 : Nat) : Int); omega⟩ dX6_findsWay_18 ?_
    try rw [hs1]
    refine f_cV4q (reckons_n (fr := 0) ho hs1 h1.2.2.1 rfl (Nat.zero_le _) (by omega) (by omega) (by omega) hg hk) rfl (by decide) rfl oY_X6_reckons oI_X6_reckons lk_X6_171 rfl dX6_findsWay_19 (by omega) (by omega) rfl (Or.inl rfl) (fun σ19 l19 h19 => ?_)
    refine g_if_ne ⟨by decide, by decide⟩ (tgt := 27) dX6_findsWay_22 rfl (fun h22 => absurd h22 (by decide)) (fun h22 => ?_)
    refine g_iconst dX6_findsWay_25 ?_
    refine g_iretB (Or.inl rfl) rfl dX6_findsWay_26 ?_
    have hf0 := fin0 _ _ h1.2.1 h1.2.2.1 h1.2.2.2 h19.2
    exact fn_ret ⟨by rw [bvF hk], h19.1, hf0.1, hf0.2.1, hf0.2.2, fun z => absurd z hk⟩
theorem changeTo_m {B : Int} {s : Int → Int} (ho : SOK B s) (hs : σ 93 = s) (hw : ∀ k : Nat, k < wN s → σ 104 k = wWp s (k + 1)) {k : Nat} (hk : k < wN s) : Fw g zX6_changeTo [.ref 92, iv (k : Int)] σ l (iv (chg (wCo s) (wWp s k) (wWp s (k + 1)))) := by
  have hn := ho.n40
  have hp3 := p3_le ho.h7
  have hp0 := p3_pos (wH s)
  have r1 := wWp_rng ho k
  have r2 := wWp_rng ho (k + 1)
  refine Fn.of [some (.ref 92), some (iv (k : Int))] rfl (by decide) (Nat.le_of_ble_eq_true rfl) rfl ?_
  refine g_iload1 dX6_changeTo_0 ?_
  refine g_if_eq ⟨by omega, by omega⟩ (tgt := 26) dX6_changeTo_1 rfl (fun h1 => ?_) (fun h1 => ?_)
  · refine g_iconst dX6_changeTo_26 ?_
    refine g_goto (tgt := 48) dX6_changeTo_27 rfl ?_
    refine g_iretI rfl dX6_changeTo_48 ?_
    first
      | (have e1 : wWp s (k + 1) = -1 := by omega
         exact Fw.ret (by unfold chg; rw [if_pos (Or.inr e1)]))
      | (have e1 : wWp s k = -1 := by omega
         exact Fw.ret (by unfold chg; rw [if_pos (Or.inl e1)]))
      | (exact Fw.ret (by unfold chg; rw [if_neg (fun z => by rcases z with y | y; exact h23 y; exact h11 y)]))
      | (exact Fw.ret (by unfold chg; rw [if_neg (fun z => by rcases z with y | y; exact (h23 y); exact (h11 y))]))
      | (have e0 : k = 0 := by omega
         subst e0
         exact Fw.ret (by unfold chg; rw [if_pos (Or.inl (show wWp s 0 = -1 from rfl))]))
  · refine g_aload0 dX6_changeTo_4 ?_
    refine f_getr (r := 104) rfl (by decide) rfl rfl fl_X6_46 dX6_changeTo_5 ?_
    refine g_iload1 dX6_changeTo_8 ?_
    refine f_iald rfl (by decide) ⟨by omega, by show _ < ((40 : Nat) : Int); omega⟩ dX6_changeTo_9 ?_
    rw [hw k hk]
    refine g_iconst dX6_changeTo_10 ?_
    refine g_icmp_eq ⟨by omega, by omega⟩ ⟨by omega, by omega⟩ (tgt := 26) dX6_changeTo_11 rfl (fun h11 => ?_) (fun h11 => ?_)
    · refine g_iconst dX6_changeTo_26 ?_
      refine g_goto (tgt := 48) dX6_changeTo_27 rfl ?_
      refine g_iretI rfl dX6_changeTo_48 ?_
      first
        | (have e1 : wWp s (k + 1) = -1 := by omega
           exact Fw.ret (by unfold chg; rw [if_pos (Or.inr e1)]))
        | (have e1 : wWp s k = -1 := by omega
           exact Fw.ret (by unfold chg; rw [if_pos (Or.inl e1)]))
        | (exact Fw.ret (by unfold chg; rw [if_neg (fun z => by rcases z with y | y; exact h23 y; exact h11 y)]))
        | (exact Fw.ret (by unfold chg; rw [if_neg (fun z => by rcases z with y | y; exact (h23 y); exact (h11 y))]))
        | (have e0 : k = 0 := by omega
           subst e0
           exact Fw.ret (by unfold chg; rw [if_pos (Or.inl (show wWp s 0 = -1 from rfl))]))
    · have hk1 : σ 104 ((k : Int) - 1) = wWp s k := by
        rw [show (k : Int) - 1 = ((k - 1 : Nat) : Int) from by omega, hw (k - 1) (by omega), show k - 1 + 1 = k from by omega]
      refine g_aload0 dX6_changeTo_14 ?_
      refine f_getr (r := 104) rfl (by decide) rfl rfl fl_X6_46 dX6_changeTo_15 ?_
      refine g_iload1 dX6_changeTo_18 ?_
      refine g_iconst dX6_changeTo_19 ?_
      refine g_isub dX6_changeTo_20 ?_
      refine f_iald rfl (by decide) ⟨by omega, by show _ < ((40 : Nat) : Int); omega⟩ dX6_changeTo_21 ?_
      rw [hk1]
      refine g_iconst dX6_changeTo_22 ?_
      refine g_icmp_ne ⟨by omega, by omega⟩ ⟨by omega, by omega⟩ (tgt := 30) dX6_changeTo_23 rfl (fun h23 => ?_) (fun h23 => ?_)
      · refine g_aload0 dX6_changeTo_30 ?_
        refine g_aload0 dX6_changeTo_31 ?_
        refine f_getr (r := 104) rfl (by decide) rfl rfl fl_X6_46 dX6_changeTo_32 ?_
        refine g_iload1 dX6_changeTo_35 ?_
        refine g_iconst dX6_changeTo_36 ?_
        refine g_isub dX6_changeTo_37 ?_
        refine f_iald rfl (by decide) ⟨by omega, by show _ < ((40 : Nat) : Int); omega⟩ dX6_changeTo_38 ?_
        rw [hk1]
        refine g_aload0 dX6_changeTo_39 ?_
        refine f_getr (r := 104) rfl (by decide) rfl rfl fl_X6_46 dX6_changeTo_40 ?_
        refine g_iload1 dX6_changeTo_43 ?_
        refine f_iald rfl (by decide) ⟨by omega, by show _ < ((40 : Nat) : Int); omega⟩ dX6_changeTo_44 ?_
        rw [hw k hk]
        refine f_cV2w (cost_m ho hs (by omega) (by omega)) rfl (by decide) rfl oY_X6_costOf oI_X6_costOf lk_X6_160 rfl dX6_changeTo_45 rfl (Or.inl rfl) ?_
        refine g_iretI rfl dX6_changeTo_48 ?_
        first
          | (have e1 : wWp s (k + 1) = -1 := by omega
             exact Fw.ret (by unfold chg; rw [if_pos (Or.inr e1)]))
          | (have e1 : wWp s k = -1 := by omega
             exact Fw.ret (by unfold chg; rw [if_pos (Or.inl e1)]))
          | (exact Fw.ret (by unfold chg; rw [if_neg (fun z => by rcases z with y | y; exact h23 y; exact h11 y)]))
          | (exact Fw.ret (by unfold chg; rw [if_neg (fun z => by rcases z with y | y; exact (h23 y); exact (h11 y))]))
          | (have e0 : k = 0 := by omega
             subst e0
             exact Fw.ret (by unfold chg; rw [if_pos (Or.inl (show wWp s 0 = -1 from rfl))]))
      · refine g_iconst dX6_changeTo_26 ?_
        refine g_goto (tgt := 48) dX6_changeTo_27 rfl ?_
        refine g_iretI rfl dX6_changeTo_48 ?_
        first
          | (have e1 : wWp s (k + 1) = -1 := by omega
             exact Fw.ret (by unfold chg; rw [if_pos (Or.inr e1)]))
          | (have e1 : wWp s k = -1 := by omega
             exact Fw.ret (by unfold chg; rw [if_pos (Or.inl e1)]))
          | (exact Fw.ret (by unfold chg; rw [if_neg (fun z => by rcases z with y | y; exact h23 y; exact h11 y)]))
          | (exact Fw.ret (by unfold chg; rw [if_neg (fun z => by rcases z with y | y; exact (h23 y); exact (h11 y))]))
          | (have e0 : k = 0 := by omega
             subst e0
             exact Fw.ret (by unfold chg; rw [if_pos (Or.inl (show wWp s 0 = -1 from rfl))]))
end C72
