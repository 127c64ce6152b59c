/-! Taking back, keeping, the output -/
section C58
variable {g : gT} {σ : sT} {l : Nat → Nat}
theorem cpSt_congr {τ : sT} {p o a : Nat} (h : ∀ a, a ≠ 0 → τ a = σ a) (hp : p ≠ 0) (ha : a ≠ 0) : cpSt τ p o a = cpSt σ p o a := by
  funext b
  unfold cpSt
  rw [h p hp, h a ha, h (p + 1) (by omega), h (p + 2) (by omega), h (p + 3) (by omega)]
  by_cases ho : o = 0
  · subst ho
    rw [if_neg ha, if_neg ha]
  · rw [h o ho]
theorem undo_no {B : Int} {s : Int → Int} {P : Nat → Int → Int} (hI : Ic σ l B s 0 P) : Fw g zX5_undo [.ref 0] σ l (iv (-1)) := by
  have h4 := hI.2.2.1
  refine Fn.of [some (.ref 0), none] rfl (by decide) (Nat.le_of_ble_eq_true rfl) rfl ?_
  refine g_aload0 dX5_undo_0 ?_
  refine f_geti (J := 4) rfl (by decide) rfl rfl fl_X5_28 dX5_undo_1 ?_
  rw [h4]
  refine g_if_ne ⟨by omega, by omega⟩ (tgt := 9) dX5_undo_4 rfl (fun h4 => absurd h4 (fun z => z rfl)) (fun h4 => ?_)
  refine g_iconst dX5_undo_7 ?_
  refine g_iretI rfl dX5_undo_8 ?_
  exact Fw.ret rfl
theorem undo_ok {B : Int} {s : Int → Int} {n : Nat} {P : Nat → Int → Int} (hI : Ic σ l B s (n + 1) P) : Fs g zX5_undo [.ref 0] σ l (iv (n : Int)) B (P n) n P := by
  obtain ⟨hK, ⟨i, hi, h3, hp⟩, hcn, h8⟩ := id hI
  have hlv := hK.ca.lv
  obtain ⟨m, hm⟩ : ∃ m, m = (i + 7) % 8 := ⟨_, rfl⟩
  have hm8 : m < 8 := by omega
  have es : sl i (n + 1) n = m := by unfold sl; omega
  obtain ⟨p1, p2, p3, _⟩ := hp n (by omega)
  rw [es] at p2 p3
  have hs := isStP hm8
  refine Fn.of [some (.ref 0), none] rfl (by decide) (Nat.le_of_ble_eq_true rfl) rfl ?_
  refine g_aload0 dX5_undo_0 ?_
  refine f_geti (J := 4) rfl (by decide) rfl rfl fl_X5_28 dX5_undo_1 ?_
  rw [hcn]
  refine g_if_ne ⟨by omega, by omega⟩ (tgt := 9) dX5_undo_4 rfl (fun h4 => ?_) (fun h4 => absurd h4 (by omega))
  refine g_aload0 dX5_undo_9 ?_
  refine g_dup rfl dX5_undo_10 ?_
  refine f_geti (J := 4) rfl (by decide) rfl rfl fl_X5_28 dX5_undo_11 ?_
  rw [hcn]
  refine g_iconst dX5_undo_14 ?_
  refine g_isub dX5_undo_15 ?_
  rw [show ((n + 1 : Nat) : Int) - 1 = (n : Int) from by omega]
  refine f_puti (J := 4) rfl (by decide) rfl rfl fl_X5_28 rfl (fun _ _ _ h => by cases h; rfl) dX5_undo_16 ?_
  refine g_aload0 dX5_undo_19 ?_
  refine g_aload0 dX5_undo_20 ?_
  refine f_geti (J := 3) rfl (by decide) rfl rfl fl_X5_24 dX5_undo_21 ?_
  rw [up_ne (by decide), h3]
  refine g_bipush dX5_undo_24 (by decide) ?_
  refine g_iadd dX5_undo_26 ?_
  refine g_iconst dX5_undo_27 ?_
  refine g_isub dX5_undo_28 ?_
  refine g_bipush dX5_undo_29 (by decide) ?_
  refine g_irem ⟨by omega, by omega⟩ ⟨by decide, by decide⟩ dX5_undo_31 ?_
  rw [show ((i : Int) + 8 - 1) % 8 = (m : Int) from by omega]
  refine f_puti (J := 3) rfl (by decide) rfl rfl fl_X5_24 rfl (fun _ _ _ h => by cases h; rfl) dX5_undo_32 ?_
  refine g_aload0 dX5_undo_35 ?_
  refine f_getr (r := 5) rfl (by decide) rfl rfl fl_X5_16 dX5_undo_36 ?_
  refine g_aload0 dX5_undo_39 ?_
  refine f_geti (J := 3) rfl (by decide) rfl rfl fl_X5_24 dX5_undo_40 ?_
  rw [up_eq]
  refine f_cS2w (stateAtP hm8) oY_X5_stateAt oT_X5_stateAt lk_X5_309 rfl dX5_undo_43 rfl (okFb_of rfl) ?_
  refine g_astore1 dX5_undo_46 rfl (by decide) ?_
  refine g_aload1 dX5_undo_47 ?_
  refine g_ifnull dX5_undo_48 ?_
  refine g_aload0 dX5_undo_51 ?_
  refine f_getr (r := 1) rfl (by decide) rfl rfl fl_X5_10 dX5_undo_52 ?_
  refine g_aload1 dX5_undo_55 ?_
  refine f_cV1d (copyFrom_ok (H := wH (P n)) (N := wN (P n)) isSt1 hs (by unfold sDis; omega) (by rw [up_n (by omega), up_n (by omega), p2.f8, p1.hI]) (by rw [up_n (by omega), up_n (by omega), p2.f9, p1.nI]) p1.h7 p1.n40) rfl (by decide) rfl oY_X3_copyFrom oI_X3_copyFrom lk_X5_313 rfl dX5_undo_56 rfl (Or.inr ⟨⟨(show okV 110 (.ref 0) from okVb_of rfl), ⟨Or.inl hs.a, hs.2.2.2.2.2.2.2.2⟩, trivial⟩, trivial⟩) ?_
  refine g_aload0 dX5_undo_59 ?_
  refine g_aload0 dX5_undo_60 ?_
  refine f_geti (J := 15) rfl (by decide) rfl rfl fl_X5_77 dX5_undo_61 ?_
  rw [cpSt_n (Or.inl (by decide)), up_ne (by decide), up_ne (by decide)]
  refine g_aload0 dX5_undo_64 ?_
  refine f_getr (r := 6) rfl (by decide) rfl rfl fl_X5_20 dX5_undo_65 ?_
  refine g_aload0 dX5_undo_68 ?_
  refine f_geti (J := 3) rfl (by decide) rfl rfl fl_X5_24 dX5_undo_69 ?_
  rw [cpSt_n (Or.inl (by decide)), up_eq]
  refine f_cS2w (atI rfl (by decide) (by omega) (by show (m : Int) < (8 : Nat); omega)) oY_X5_at oT_X5_at lk_X5_164 rfl dX5_undo_72 rfl (Or.inl rfl) ?_
  rw [cpSt_n (Or.inr (by decide)), up_n (by decide), up_n (by decide)]
  refine g_mmin ⟨by omega, by omega⟩ ⟨by omega, by omega⟩ ma_X5_316 ⟨by decide, Nat.le_of_ble_eq_true rfl⟩ dX5_undo_75 ?_
  refine f_puti (J := 15) rfl (by decide) rfl rfl fl_X5_77 rfl (fun _ _ _ h => by cases h; rfl) dX5_undo_78 ?_
  refine g_aload0 dX5_undo_81 ?_
  refine f_geti (J := 4) rfl (by decide) rfl rfl fl_X5_28 dX5_undo_82 ?_
  rw [up_ne (by decide), cpSt_n (Or.inl (by decide)), up_ne (by decide), up_eq]
  refine g_iretI rfl dX5_undo_85 ?_
  have hcp : ∀ a, a ≠ 0 → cpSt (up (up σ 0 4 (n : Int)) 0 3 (m : Int)) (52 + 4 * m) 1 a = cpSt σ (52 + 4 * m) 1 a := fun a ha => cpSt_congr (fun a h0 => by rw [up_n h0, up_n h0]) (by omega) ha
  refine fn_ret ⟨rfl, ⟨fun a a0 a1 => ?_, fun j j3 j4 j15 => ?_⟩, hI.back h3 (fun a ha => ?_) ?_ ?_ ?_, rfl⟩
  · rw [up_n (by omega), hcp a (by omega), cpSt_n (by omega)]
  · rw [up_ne (fun z => j15 z.2), cpSt_n (Or.inl (by decide)), up_ne (fun z => j3 z.2), up_ne (fun z => j4 z.2)]
  · rw [up_n ha, hcp a ha, hm]
  · rw [up_ne (by decide), cpSt_n (Or.inl (by decide)), up_eq, hm]
  · rw [up_ne (by decide), cpSt_n (Or.inl (by decide)), up_ne (by decide), up_eq]
  · rw [up_eq, hm]
/-- the state put into a slot -/
def svS (σ : sT) (k : Nat) : sT := up (cpSt σ 1 (84 + 4 * k)) 8 k 1
theorem saveSnapshot_ok {B : Int} {s : Int → Int} (hK : Kc σ l B s) {k : Nat} (hk : k < 2) : FX g zX5_saveSnapshot [.ref 0, iv (k : Int)] σ l (iv (s 9)) (svS σ k) := by
  have ho := hK.ok
  have hc := hK.st
  have hs := isStS hk
  refine Fn.of [some (.ref 0), some (iv (k : Int)), none] rfl (by decide) (Nat.le_of_ble_eq_true rfl) rfl ?_
  refine g_aload0 dX5_saveSnapshot_0 ?_
  refine g_iload1 dX5_saveSnapshot_1 ?_
  refine g_iconst dX5_saveSnapshot_2 ?_
  refine g_iconst dX5_saveSnapshot_3 ?_
  refine f_cV3d (needRange_ok ⟨by omega, by omega⟩ ⟨by decide, by decide⟩ ⟨by decide, by decide⟩ ⟨by omega, by omega⟩) rfl (by decide) rfl oY_X5_needRange oI_X5_needRange lk_X5_110 rfl dX5_saveSnapshot_4 rfl (Or.inl rfl) ?_
  refine g_aload0 dX5_saveSnapshot_7 ?_
  refine f_getr (r := 7) rfl (by decide) rfl rfl fl_X5_31 dX5_saveSnapshot_8 ?_
  refine g_iload1 dX5_saveSnapshot_11 ?_
  refine f_cS2w (stateAtS hk) oY_X5_stateAt oT_X5_stateAt lk_X5_309 rfl dX5_saveSnapshot_12 rfl (okFb_of rfl) ?_
  refine g_astore2 dX5_saveSnapshot_15 rfl (by decide) ?_
  refine g_aload2 dX5_saveSnapshot_16 ?_
  refine g_ifnull dX5_saveSnapshot_17 ?_
  refine g_aload2 dX5_saveSnapshot_20 ?_
  refine g_aload0 dX5_saveSnapshot_21 ?_
  refine f_getr (r := 1) rfl (by decide) rfl rfl fl_X5_10 dX5_saveSnapshot_22 ?_
  refine f_cV1d (copyFrom_ok hs isSt1 (by unfold sDis; omega) (hc.H ho) (hc.N ho) ho.h7 ho.n40) hs.1 hs.a rfl oY_X3_copyFrom oI_X3_copyFrom lk_X5_313 rfl dX5_saveSnapshot_25 rfl (Or.inr ⟨⟨(show okV 110 (.ref 0) from okVb_of rfl), trivial, ⟨Or.inl hs.a, hs.2.2.2.2.2.2.2.2⟩, trivial⟩, trivial⟩) ?_
  refine g_aload0 dX5_saveSnapshot_28 ?_
  refine f_getr (r := 8) rfl (by decide) rfl rfl fl_X5_34 dX5_saveSnapshot_29 ?_
  refine g_iload1 dX5_saveSnapshot_32 ?_
  refine g_iconst dX5_saveSnapshot_33 ?_
  refine f_cS3d (putI rfl (by decide) (by omega) (by show (k : Int) < (2 : Nat); omega)) oY_X5_put oT_X5_put lk_X5_283 rfl dX5_saveSnapshot_34 rfl (Or.inr ⟨⟨(show okV 110 (.ref 0) from okVb_of rfl), trivial, ⟨Or.inl hs.a, hs.2.2.2.2.2.2.2.2⟩, trivial⟩, trivial⟩) ?_
  refine g_aload0 dX5_saveSnapshot_37 ?_
  refine f_getr (r := 1) rfl (by decide) rfl rfl fl_X5_10 dX5_saveSnapshot_38 ?_
  refine f_geti (J := 9) rfl (by decide) rfl rfl fl_X5_101 dX5_saveSnapshot_41 ?_
  rw [up_n (by decide), cpSt_n (Or.inl (by omega)), hc.f9]
  refine g_iretI rfl dX5_saveSnapshot_44 ?_
  exact fn_ret ⟨rfl, rfl, rfl⟩
theorem saveSnapshot_bad {x : Int} (hx : R32 x) (h : ¬ (0 ≤ x ∧ x ≤ 1)) : Ft g zX5_saveSnapshot [.ref 0, iv x] σ l 0 := by
  refine Fn.of [some (.ref 0), some (iv x), none] rfl (by decide) (Nat.le_of_ble_eq_true rfl) rfl ?_
  refine g_aload0 dX5_saveSnapshot_0 ?_
  refine g_iload1 dX5_saveSnapshot_1 ?_
  refine g_iconst dX5_saveSnapshot_2 ?_
  refine g_iconst dX5_saveSnapshot_3 ?_
  refine f_cV3t (needRange_bad hx ⟨by decide, by decide⟩ ⟨by decide, by decide⟩ h) rfl (by decide) rfl oY_X5_needRange oI_X5_needRange lk_X5_110 rfl dX5_saveSnapshot_4 (by omega) (by omega) rfl (Or.inl rfl) rfl ?_
  exact Ft.ret
theorem restoreSnapshot_bad {x : Int} (hx : R32 x) (h : ¬ (0 ≤ x ∧ x ≤ 1)) : Ft g zX5_restoreSnapshot [.ref 0, iv x] σ l 0 := by
  refine Fn.of [some (.ref 0), some (iv x), none] rfl (by decide) (Nat.le_of_ble_eq_true rfl) rfl ?_
  refine g_aload0 dX5_restoreSnapshot_0 ?_
  refine g_iload1 dX5_restoreSnapshot_1 ?_
  refine g_iconst dX5_restoreSnapshot_2 ?_
  refine g_iconst dX5_restoreSnapshot_3 ?_
  refine f_cV3t (needRange_bad hx ⟨by decide, by decide⟩ ⟨by decide, by decide⟩ h) rfl (by decide) rfl oY_X5_needRange oI_X5_needRange lk_X5_110 rfl dX5_restoreSnapshot_4 (by omega) (by omega) rfl (Or.inl rfl) rfl ?_
  exact Ft.ret
theorem restoreSnapshot_no {k : Nat} (hk : k < 2) (h0 : σ 8 k = 0) : Fw g zX5_restoreSnapshot [.ref 0, iv (k : Int)] σ l (iv (-1)) := by
  have hs := isStS hk
  refine Fn.of [some (.ref 0), some (iv (k : Int)), none] rfl (by decide) (Nat.le_of_ble_eq_true rfl) rfl ?_
  refine g_aload0 dX5_restoreSnapshot_0 ?_
  refine g_iload1 dX5_restoreSnapshot_1 ?_
  refine g_iconst dX5_restoreSnapshot_2 ?_
  refine g_iconst dX5_restoreSnapshot_3 ?_
  refine f_cV3d (needRange_ok ⟨by omega, by omega⟩ ⟨by decide, by decide⟩ ⟨by decide, by decide⟩ ⟨by omega, by omega⟩) rfl (by decide) rfl oY_X5_needRange oI_X5_needRange lk_X5_110 rfl dX5_restoreSnapshot_4 rfl (Or.inl rfl) ?_
  refine g_aload0 dX5_restoreSnapshot_7 ?_
  refine f_getr (r := 7) rfl (by decide) rfl rfl fl_X5_31 dX5_restoreSnapshot_8 ?_
  refine g_iload1 dX5_restoreSnapshot_11 ?_
  refine f_cS2w (stateAtS hk) oY_X5_stateAt oT_X5_stateAt lk_X5_309 rfl dX5_restoreSnapshot_12 rfl (okFb_of rfl) ?_
  refine g_astore2 dX5_restoreSnapshot_15 rfl (by decide) ?_
  refine g_aload2 dX5_restoreSnapshot_16 ?_
  refine g_ifnull dX5_restoreSnapshot_17 ?_
  refine g_aload0 dX5_restoreSnapshot_20 ?_
  refine f_getr (r := 8) rfl (by decide) rfl rfl fl_X5_34 dX5_restoreSnapshot_21 ?_
  refine g_iload1 dX5_restoreSnapshot_24 ?_
  refine f_cS2w (atI rfl (by decide) (by omega) (by show (k : Int) < (2 : Nat); omega)) oY_X5_at oT_X5_at lk_X5_164 rfl dX5_restoreSnapshot_25 rfl (Or.inr ⟨⟨(show okV 110 (.ref 0) from okVb_of rfl), trivial, ⟨Or.inl hs.a, hs.2.2.2.2.2.2.2.2⟩, trivial⟩, trivial⟩) ?_
  rw [h0]
  refine g_if_ne ⟨by decide, by decide⟩ (tgt := 33) dX5_restoreSnapshot_28 rfl (fun h28 => absurd h28 (fun z => z rfl)) (fun h28 => ?_)
  refine g_iconst dX5_restoreSnapshot_31 ?_
  refine g_iretI rfl dX5_restoreSnapshot_32 ?_
  exact Fw.ret rfl
theorem restoreSnapshot_ok {B : Int} {t : Int → Int} {k : Nat} (hk : k < 2) (h1 : σ 8 k = 1) (ht : SOK B t) (hc : CSt σ (84 + 4 * k) t) : FX g zX5_restoreSnapshot [.ref 0, iv (k : Int)] σ l (iv (t 9)) (rplS σ (84 + 4 * k)) := by
  have hs := isStS hk
  have h9 : rplS σ (84 + 4 * k) 1 9 = t 9 := by
    unfold rplS
    rw [up_n (by decide), up_n (by decide)]
    exact (CSt.cp hc).f9
  refine Fn.of [some (.ref 0), some (iv (k : Int)), none] rfl (by decide) (Nat.le_of_ble_eq_true rfl) rfl ?_
  refine g_aload0 dX5_restoreSnapshot_0 ?_
  refine g_iload1 dX5_restoreSnapshot_1 ?_
  refine g_iconst dX5_restoreSnapshot_2 ?_
  refine g_iconst dX5_restoreSnapshot_3 ?_
  refine f_cV3d (needRange_ok ⟨by omega, by omega⟩ ⟨by decide, by decide⟩ ⟨by decide, by decide⟩ ⟨by omega, by omega⟩) rfl (by decide) rfl oY_X5_needRange oI_X5_needRange lk_X5_110 rfl dX5_restoreSnapshot_4 rfl (Or.inl rfl) ?_
  refine g_aload0 dX5_restoreSnapshot_7 ?_
  refine f_getr (r := 7) rfl (by decide) rfl rfl fl_X5_31 dX5_restoreSnapshot_8 ?_
  refine g_iload1 dX5_restoreSnapshot_11 ?_
  refine f_cS2w (stateAtS hk) oY_X5_stateAt oT_X5_stateAt lk_X5_309 rfl dX5_restoreSnapshot_12 rfl (okFb_of rfl) ?_
  refine g_astore2 dX5_restoreSnapshot_15 rfl (by decide) ?_
  refine g_aload2 dX5_restoreSnapshot_16 ?_
  refine g_ifnull dX5_restoreSnapshot_17 ?_
  refine g_aload0 dX5_restoreSnapshot_20 ?_
  refine f_getr (r := 8) rfl (by decide) rfl rfl fl_X5_34 dX5_restoreSnapshot_21 ?_
  refine g_iload1 dX5_restoreSnapshot_24 ?_
  refine f_cS2w (atI rfl (by decide) (by omega) (by show (k : Int) < (2 : Nat); omega)) oY_X5_at oT_X5_at lk_X5_164 rfl dX5_restoreSnapshot_25 rfl (Or.inr ⟨⟨(show okV 110 (.ref 0) from okVb_of rfl), trivial, ⟨Or.inl hs.a, hs.2.2.2.2.2.2.2.2⟩, trivial⟩, trivial⟩) ?_
  rw [h1]
  refine g_if_ne ⟨by decide, by decide⟩ (tgt := 33) dX5_restoreSnapshot_28 rfl (fun h28 => ?_) (fun h28 => absurd h28 (by decide))
  refine g_aload0 dX5_restoreSnapshot_33 ?_
  refine g_aload2 dX5_restoreSnapshot_34 ?_
  refine f_cV1d (replaceAll_ok hs (by unfold sDis; omega) (hc.f8.trans ht.hI) (hc.f9.trans ht.nI) ht.h7 ht.n40) rfl (by decide) rfl oY_X5_replaceAll oI_X5_replaceAll lk_X5_97 rfl dX5_restoreSnapshot_35 rfl (Or.inr ⟨⟨(show okV 110 (.ref 0) from okVb_of rfl), trivial, ⟨Or.inl hs.a, hs.2.2.2.2.2.2.2.2⟩, trivial⟩, trivial⟩) ?_
  refine g_aload0 dX5_restoreSnapshot_38 ?_
  refine f_getr (r := 1) rfl (by decide) rfl rfl fl_X5_10 dX5_restoreSnapshot_39 ?_
  refine f_geti (J := 9) rfl (by decide) rfl rfl fl_X5_101 dX5_restoreSnapshot_42 ?_
  rw [h9]
  refine g_iretI rfl dX5_restoreSnapshot_45 ?_
  exact fn_ret ⟨rfl, rfl, rfl⟩
theorem rplS_ic {B : Int} {s t : Int → Int} {n p : Nat} {P Q : Nat → Int → Int} (h : Ic σ l B s n P) (hc : CSt σ p t) (ho : SOK B t) (hp : p ≠ 0) : Ic (rplS σ p) l B t 0 Q := by
  have e : ∀ a, a ≠ 0 → rplS σ p a = cpSt σ p 1 a := fun a ha => by unfold rplS; rw [up_n ha, up_n ha]
  refine h.repl (fun a a0 a1 => by rw [e a a0, cpSt_n (Or.inr (by omega))]) ?_ ho ?_ ?_ ?_
  · exact CSt.frame (σ := cpSt σ p 1) hc.cp (e 1 (by decide)) (e 2 (by decide)) (e 3 (by decide)) (e 4 (by decide))
  · unfold rplS; rw [up_ne (by decide), up_ne (by decide), cpSt_n (Or.inl (by decide))]
  · unfold rplS; rw [up_ne (by decide), up_eq]
  · unfold rplS; rw [up_eq]
theorem rplS_mf {p : Nat} (hp : p ≠ 0) : MF σ (rplS σ p) := by
  refine ⟨fun a a0 a1 => ?_, fun j j3 j4 j15 => ?_⟩
  · unfold rplS; rw [up_n (by omega), up_n (by omega), cpSt_n (by omega)]
  · unfold rplS; rw [up_ne (fun z => j15 z.2), up_ne (fun z => j4 z.2), cpSt_n (Or.inl (by decide))]
/-- what was written -/
def Ow (σ τ : sT) (L : List Int) : Prop := (∀ a, a ≠ 0 → a ≠ 16 → τ a = σ a) ∧ (∀ j, j ≠ 9 → τ 0 j = σ 0 j) ∧ τ 0 9 = (L.length : Int) ∧ ∀ (j : Nat) (x : Int), L[j]? = some x → τ 16 j = x
theorem Ow.nil (σ : sT) : Ow σ (up σ 0 9 0) [] := ⟨fun a a0 _ => up_n a0, fun j hj => up_ne (fun z => hj z.2), by rw [up_eq]; rfl, fun j x h => by simp at h⟩
theorem Ow.snoc {τ : sT} {L : List Int} {x : Int} (h : Ow σ τ L) : Ow σ (up (up τ 16 (L.length : Int) x) 0 9 ((L.length : Int) + 1)) (L ++ [x]) := by
  refine ⟨fun a a0 a16 => by rw [up_n a0, up_n a16, h.1 a a0 a16], fun j hj => by rw [up_ne (fun z => hj z.2), up_n (by decide), h.2.1 j hj], by rw [up_eq, List.length_append]; push_cast; rfl, fun j y hy => ?_⟩
  rw [up_n (by decide)]
  rw [List.getElem?_append] at hy
  split at hy
  · next hj => rw [up_ne (fun z => by omega)]; exact h.2.2.2 j y hy
  · next hj =>
    by_cases e : j = L.length
    · subst e
      rw [Nat.sub_self] at hy
      cases hy
      rw [up_eq]
    · exfalso
      obtain ⟨d, hd⟩ : ∃ d, j - L.length = d + 1 := ⟨j - L.length - 1, by omega⟩
      rw [hd] at hy
      cases hy
theorem write_w {τ : sT} {L : List Int} {x : Int} (h : Ow σ τ L) (hl : L.length < 120) : Fu g zX5_write 0 0 [.ref 0, iv x] τ l (fun τ' l' => l' = l ∧ Ow σ τ' (L ++ [x])) :=
  Fn.mono (write_ok (g := g) (l := l) (x := x) h.2.2.1 ⟨by omega, by omega⟩) (fun o τ' l' ⟨a, b, d⟩ => ⟨a, d, by rw [b]; exact h.snoc⟩)
def wpB (s : Int → Int) (p : Int) (k : Nat) : Int := if dgt p k = 0 then 111 else if dgt p k = 1 then 104 else 120
def wpL (s : Int → Int) (p : Int) : Nat → List Int
  | 0 => []
  | k + 1 => wpL s p k ++ [wpB s p k]
def wpO (s : Int → Int) (p : Int) : List Int := if p < ((3 ^ wH s : Nat) : Int) then wpL s p (wH s) else wpL s p (wH s) ++ [43]
theorem wpL_len (s : Int → Int) (p : Int) (k : Nat) : (wpL s p k).length = k := by
  induction k with
  | zero => rfl
  | succ k ih => unfold wpL; rw [List.length_append, ih]; rfl
theorem writePlay_ok {B : Int} {s : Int → Int} (hK : Kc σ l B s) {p : Int} (hx : R32 p) (h : 0 ≤ p ∧ p < 2 * ((3 ^ wH s : Nat) : Int)) : Fn g zX5_writePlay 0 0 [.ref 0, iv p] σ l (fun o τ l' => o = .inl (some (iv (((wpO s p).length : Int)))) ∧ Ow σ τ (wpO s p) ∧ l' = l) := by
  have ho := hK.ok
  have hc := hK.st
  have h7 := ho.h7
  have hp3 := p3_le ho.h7
  refine Fn.of [some (.ref 0), some (iv p), none, none] rfl (by decide) (Nat.le_of_ble_eq_true rfl) rfl ?_
  refine g_aload0 dX5_writePlay_0 ?_
  refine g_iload1 dX5_writePlay_1 ?_
  refine f_cV1d (needPlay_ok ho hc hx h) rfl (by decide) rfl oY_X5_needPlay oI_X5_needPlay lk_X5_175 rfl dX5_writePlay_2 rfl (Or.inl rfl) ?_
  refine g_aload0 dX5_writePlay_5 ?_
  refine g_iconst dX5_writePlay_6 ?_
  refine f_puti (J := 9) rfl (by decide) rfl rfl fl_X5_47 rfl (fun _ _ _ h => by cases h; rfl) dX5_writePlay_7 ?_
  have loop : ∀ q, q ≤ wH s → ∀ (i : Int) (u3 : Option Value) (τ : sT), i = (q : Int) → Ow σ τ (wpL s p q) → FW g zX5_writePlay 0 0 (fun o τ l' => o = .inl (some (iv (((wpO s p).length : Int)))) ∧ Ow σ τ (wpO s p) ∧ l' = l) 12 [some (.ref 0), some (iv p), some (iv i), u3] [] τ l := by
    refine loopUp _ (fun q hq2 ih i u3 τ hi w => ?_)
    subst hi
    refine g_iload2 dX5_writePlay_12 ?_
    refine g_aload0 dX5_writePlay_13 ?_
    refine f_getr (r := 1) rfl (by decide) rfl rfl fl_X5_10 dX5_writePlay_14 ?_
    refine f_geti (J := 8) rfl (by decide) rfl rfl fl_X5_123 dX5_writePlay_17 ?_
    rw [w.1 1 (by decide) (by decide), hc.f8, ho.hI]
    refine g_icmp_ge ⟨by omega, by omega⟩ ⟨by omega, by omega⟩ (tgt := 60) dX5_writePlay_20 rfl (fun h20 => ?_) (fun h20 => ?_)
    · have e9 : q = wH s := by omega
      subst e9
      refine g_iload1 dX5_writePlay_60 ?_
      refine g_aload0 dX5_writePlay_61 ?_
      refine f_getr (r := 1) rfl (by decide) rfl rfl fl_X5_10 dX5_writePlay_62 ?_
      refine f_cV0w (fingeringCount_ok isSt1 (by rw [w.1 1 (by decide) (by decide), hc.H ho]; exact ⟨by omega, by omega⟩)) rfl (by decide) rfl oY_X3_fingeringCount oI_X3_fingeringCount lk_X5_299 rfl dX5_writePlay_65 rfl (Or.inl rfl) ?_
      rw [w.1 1 (by decide) (by decide), hc.H ho, pw_nat (by omega)]
      refine g_icmp_lt ⟨by omega, by omega⟩ ⟨by omega, by omega⟩ (tgt := 77) dX5_writePlay_68 rfl (fun h68 => ?_) (fun h68 => ?_)
      · refine g_aload0 dX5_writePlay_77 ?_
        refine f_geti (J := 9) rfl (by decide) rfl rfl fl_X5_47 dX5_writePlay_78 ?_
        first
          | rw [w74.2.2.1]
          | rw [w.2.2.1]
        refine g_iretI rfl dX5_writePlay_81 ?_
        first
          | exact fn_ret ⟨by unfold wpO; rw [if_pos h68], by unfold wpO; rw [if_pos h68]; exact w, rfl⟩
          | exact fn_ret ⟨by unfold wpO; rw [if_neg (by omega)], by unfold wpO; rw [if_neg (by omega)]; exact w74, rfl⟩
      · refine g_aload0 dX5_writePlay_71 ?_
        refine g_bipush dX5_writePlay_72 (by decide) ?_
        refine f_cV1m (write_w (x := 43) w (by rw [wpL_len]; omega)) rfl (by decide) rfl oY_X5_write oI_X5_write lk_X5_306 rfl dX5_writePlay_74 (by omega) (by omega) rfl (Or.inl rfl) (fun σ74 l74 h74 => ?_)
        obtain ⟨e74, w74⟩ := h74
        subst e74
        refine g_aload0 dX5_writePlay_77 ?_
        refine f_geti (J := 9) rfl (by decide) rfl rfl fl_X5_47 dX5_writePlay_78 ?_
        first
          | rw [w74.2.2.1]
          | rw [w.2.2.1]
        refine g_iretI rfl dX5_writePlay_81 ?_
        first
          | exact fn_ret ⟨by unfold wpO; rw [if_pos h68], by unfold wpO; rw [if_pos h68]; exact w, rfl⟩
          | exact fn_ret ⟨by unfold wpO; rw [if_neg (by omega)], by unfold wpO; rw [if_neg (by omega)]; exact w74, rfl⟩
    · refine g_iload1 dX5_writePlay_23 ?_
      refine g_iload2 dX5_writePlay_24 ?_
      refine f_cS2w (coverOf_ok ⟨by omega, by omega⟩ ⟨by omega, by omega⟩) oY_X5_coverOf oT_X5_coverOf lk_X5_171 rfl dX5_writePlay_25 rfl (Or.inl rfl) ?_
      rw [covC_d (by omega)]
      have hdg := dg_rng (p / ((3 ^ q : Nat) : Int))
      rw [show p / ((3 ^ q : Nat) : Int) % 3 = dgt p q from rfl] at hdg
      refine g_istore3 dX5_writePlay_28 rfl (by decide) ?_
      refine g_aload0 dX5_writePlay_29 ?_
      refine g_iload3 dX5_writePlay_30 ?_
      refine g_if_ne ⟨by omega, by omega⟩ (tgt := 39) dX5_writePlay_31 rfl (fun h31 => ?_) (fun h31 => ?_)
      · refine g_iload3 dX5_writePlay_39 ?_
        refine g_iconst dX5_writePlay_40 ?_
        refine g_icmp_ne ⟨by omega, by omega⟩ ⟨by decide, by decide⟩ (tgt := 49) dX5_writePlay_41 rfl (fun h41 => ?_) (fun h41 => ?_)
        · refine g_bipush dX5_writePlay_49 (by decide) ?_
          refine f_cV1m (write_w w (by rw [wpL_len]; omega)) rfl (by decide) rfl oY_X5_write oI_X5_write lk_X5_306 rfl dX5_writePlay_51 (by omega) (by omega) rfl (Or.inl rfl) (fun σ51 l51 h51 => ?_)
          obtain ⟨e51, w51⟩ := h51
          subst e51
          refine g_iinc2 dX5_writePlay_54 rfl (by decide) ?_
          refine g_goto (tgt := 12) dX5_writePlay_57 rfl ?_
          refine ih (by omega) _ _ _ (by push_cast; omega) ?_
          rw [wpL]
          unfold wpB
          first
            | rw [if_pos h31]; exact w51
            | rw [if_neg h31, if_pos h41]; exact w51
            | rw [if_neg h31, if_neg h41]; exact w51
        · refine g_bipush dX5_writePlay_44 (by decide) ?_
          refine g_goto (tgt := 51) dX5_writePlay_46 rfl ?_
          refine f_cV1m (write_w w (by rw [wpL_len]; omega)) rfl (by decide) rfl oY_X5_write oI_X5_write lk_X5_306 rfl dX5_writePlay_51 (by omega) (by omega) rfl (Or.inl rfl) (fun σ51 l51 h51 => ?_)
          obtain ⟨e51, w51⟩ := h51
          subst e51
          refine g_iinc2 dX5_writePlay_54 rfl (by decide) ?_
          refine g_goto (tgt := 12) dX5_writePlay_57 rfl ?_
          refine ih (by omega) _ _ _ (by push_cast; omega) ?_
          rw [wpL]
          unfold wpB
          first
            | rw [if_pos h31]; exact w51
            | rw [if_neg h31, if_pos h41]; exact w51
            | rw [if_neg h31, if_neg h41]; exact w51
      · refine g_bipush dX5_writePlay_34 (by decide) ?_
        refine g_goto (tgt := 51) dX5_writePlay_36 rfl ?_
        refine f_cV1m (write_w w (by rw [wpL_len]; omega)) rfl (by decide) rfl oY_X5_write oI_X5_write lk_X5_306 rfl dX5_writePlay_51 (by omega) (by omega) rfl (Or.inl rfl) (fun σ51 l51 h51 => ?_)
        obtain ⟨e51, w51⟩ := h51
        subst e51
        refine g_iinc2 dX5_writePlay_54 rfl (by decide) ?_
        refine g_goto (tgt := 12) dX5_writePlay_57 rfl ?_
        refine ih (by omega) _ _ _ (by push_cast; omega) ?_
        rw [wpL]
        unfold wpB
        first
          | rw [if_pos h31]; exact w51
          | rw [if_neg h31, if_pos h41]; exact w51
          | rw [if_neg h31, if_neg h41]; exact w51
  refine g_iconst dX5_writePlay_10 ?_
  refine g_istore2 dX5_writePlay_11 rfl (by decide) ?_
  exact loop 0 (Nat.zero_le _) _ _ _ rfl (Ow.nil σ)
theorem writePlay_bad {B : Int} {s : Int → Int} (ho : SOK B s) (hc : CSt σ 1 s) {x : Int} (hx : R32 x) (h : ¬ (0 ≤ x ∧ x < 2 * ((3 ^ wH s : Nat) : Int))) : Ft g zX5_writePlay [.ref 0, iv x] σ l 1 := by
  refine Fn.of [some (.ref 0), some (iv x), none, none] rfl (by decide) (Nat.le_of_ble_eq_true rfl) rfl ?_
  refine g_aload0 dX5_writePlay_0 ?_
  refine g_iload1 dX5_writePlay_1 ?_
  refine f_cV1t (needPlay_bad ho hc hx h) rfl (by decide) rfl oY_X5_needPlay oI_X5_needPlay lk_X5_175 rfl dX5_writePlay_2 (by omega) (by omega) rfl (Or.inl rfl) rfl ?_
  exact Ft.ret
/-- the signs of a note -/
def wtN (t : Int) : List Int := if t = -1 then [114] else if t < 10 then [48 + t % 10] else [48 + t / 10, 48 + t % 10]
def wtL (s : Int → Int) : Nat → List Int
  | 0 => []
  | k + 1 => wtL s k ++ ((if k = 0 then [] else [32]) ++ wtN (wTu s k))
theorem wtN_len (t : Int) : 1 ≤ (wtN t).length ∧ (wtN t).length ≤ 2 := by
  unfold wtN
  split
  · exact ⟨Nat.le_refl _, show (1 : Nat) ≤ 2 by decide⟩
  · split
    · exact ⟨Nat.le_refl _, show (1 : Nat) ≤ 2 by decide⟩
    · exact ⟨show (1 : Nat) ≤ 2 by decide, Nat.le_refl _⟩
theorem wtL_len (s : Int → Int) (k : Nat) : (wtL s k).length + (if k = 0 then 0 else 1) ≤ 3 * k := by
  induction k with
  | zero => exact Nat.le_refl _
  | succ k ih =>
    unfold wtL
    have h := wtN_len (wTu s k)
    rw [List.length_append, List.length_append, if_neg (show ¬ (k + 1 = 0) from by omega)]
    by_cases e : k = 0
    · rw [if_pos e] at ih ⊢; simp only [List.length_nil]; omega
    · rw [if_neg e] at ih ⊢; simp only [List.length_cons, List.length_nil]; omega
theorem writeTune_ok {B : Int} {s : Int → Int} (hK : Kc σ l B s) : Fn g zX5_writeTune 0 0 [.ref 0] σ l (fun o τ l' => o = .inl (some (iv (((wtL s (wN s)).length : Int)))) ∧ Ow σ τ (wtL s (wN s)) ∧ l' = l) := by
  have ho := hK.ok
  have hc := hK.st
  have hn40 := ho.n40
  refine Fn.of [some (.ref 0), none, none] rfl (by decide) (Nat.le_of_ble_eq_true rfl) rfl ?_
  refine g_aload0 dX5_writeTune_0 ?_
  refine g_iconst dX5_writeTune_1 ?_
  refine f_puti (J := 9) rfl (by decide) rfl rfl fl_X5_47 rfl (fun _ _ _ h => by cases h; rfl) dX5_writeTune_2 ?_
  have loop : ∀ q, q ≤ wN s → ∀ (i : Int) (u2 : Option Value) (τ : sT), i = (q : Int) → Ow σ τ (wtL s q) → FW g zX5_writeTune 0 0 (fun o τ l' => o = .inl (some (iv (((wtL s (wN s)).length : Int)))) ∧ Ow σ τ (wtL s (wN s)) ∧ l' = l) 7 [some (.ref 0), some (iv i), u2] [] τ l := by
    refine loopUp _ (fun q hq2 ih i u2 τ hi w => ?_)
    subst hi
    have hwl := wtL_len s q
    have hwl2 : (wtL s q).length ≤ 3 * q := by omega
    have hwl3 : q ≠ 0 → (wtL s q).length + 1 ≤ 3 * q := fun z => by rw [if_neg z] at hwl; exact hwl
    have tail : q < wN s → ∀ (M : List Int) (τ : sT) (u2 : Option Value), M.length ≤ 3 * q → Ow σ τ M → wtL s q ++ (if q = 0 then [] else [32]) = M → FW g zX5_writeTune 0 0 (fun o τ l' => o = .inl (some (iv (((wtL s (wN s)).length : Int)))) ∧ Ow σ τ (wtL s (wN s)) ∧ l' = l) 28 [some (.ref 0), some (iv (q : Int)), u2] [] τ l := by
      intro hqn M τ u2 hML wm hM
      refine g_aload0 dX5_writeTune_28 ?_
      refine f_getr (r := 1) rfl (by decide) rfl rfl fl_X5_10 dX5_writeTune_29 ?_
      refine f_getr (r := 4) rfl (by decide) rfl rfl fl_X5_242 dX5_writeTune_32 ?_
      refine g_iload1 dX5_writeTune_35 ?_
      refine f_cS2w (atI rfl (by decide) (by omega) (by show (q : Int) < (40 : Nat); omega)) oY_X5_at oT_X5_at lk_X5_164 rfl dX5_writeTune_36 rfl (Or.inl rfl) ?_
      rw [wm.1 4 (by decide) (by decide), hc.tu q (by omega) (by rw [ho.nI]; omega)]
      have ht := ho.tune q (by omega) (by rw [ho.nI]; omega)
      refine g_istore2 dX5_writeTune_39 rfl (by decide) ?_
      refine g_iload2 dX5_writeTune_40 ?_
      refine g_iconst dX5_writeTune_41 ?_
      refine g_icmp_ne ⟨by omega, by omega⟩ ⟨by decide, by decide⟩ (tgt := 54) dX5_writeTune_42 rfl (fun h42 => ?_) (fun h42 => ?_)
      · refine g_iload2 dX5_writeTune_54 ?_
        refine g_bipush dX5_writeTune_55 (by decide) ?_
        refine g_icmp_lt ⟨by omega, by omega⟩ ⟨by decide, by decide⟩ (tgt := 71) dX5_writeTune_57 rfl (fun h57 => ?_) (fun h57 => ?_)
        · refine g_aload0 dX5_writeTune_71 ?_
          refine g_bipush dX5_writeTune_72 (by decide) ?_
          refine g_iload2 dX5_writeTune_74 ?_
          refine g_bipush dX5_writeTune_75 (by decide) ?_
          refine g_irem ⟨by omega, by omega⟩ ⟨by decide, by decide⟩ dX5_writeTune_77 ?_
          refine g_iadd dX5_writeTune_78 ?_
          refine f_cV1m (write_w wm (by omega)) rfl (by decide) rfl oY_X5_write oI_X5_write lk_X5_306 rfl dX5_writeTune_79 (by omega) (by omega) rfl (Or.inl rfl) (fun σ79 l79 h79 => ?_)
          obtain ⟨e79, w79⟩ := h79
          subst e79
          refine g_iinc1 dX5_writeTune_82 rfl (by decide) ?_
          refine g_goto (tgt := 7) dX5_writeTune_85 rfl ?_
          refine ih (by omega) _ _ _ (by push_cast; omega) ?_
          rw [wtL, ← List.append_assoc, hM]
          unfold wtN
          first
            | (rw [if_pos h42]; exact w48)
            | (rw [if_neg h42, if_pos h57]; exact w79)
            | (rw [if_neg h42, if_neg (by omega)]; rw [List.append_assoc] at w79; exact w79)
        · refine g_aload0 dX5_writeTune_60 ?_
          refine g_bipush dX5_writeTune_61 (by decide) ?_
          refine g_iload2 dX5_writeTune_63 ?_
          refine g_bipush dX5_writeTune_64 (by decide) ?_
          refine g_idiv ⟨by omega, by omega⟩ ⟨by decide, by decide⟩ dX5_writeTune_66 ?_
          refine g_iadd dX5_writeTune_67 ?_
          refine f_cV1m (write_w wm (by omega)) rfl (by decide) rfl oY_X5_write oI_X5_write lk_X5_306 rfl dX5_writeTune_68 (by omega) (by omega) rfl (Or.inl rfl) (fun σ68 l68 h68 => ?_)
          obtain ⟨e68, w68⟩ := h68
          subst e68
          refine g_aload0 dX5_writeTune_71 ?_
          refine g_bipush dX5_writeTune_72 (by decide) ?_
          refine g_iload2 dX5_writeTune_74 ?_
          refine g_bipush dX5_writeTune_75 (by decide) ?_
          refine g_irem ⟨by omega, by omega⟩ ⟨by decide, by decide⟩ dX5_writeTune_77 ?_
          refine g_iadd dX5_writeTune_78 ?_
          refine f_cV1m (write_w w68 (by rw [List.length_append]; show _ + 1 < 120; omega)) rfl (by decide) rfl oY_X5_write oI_X5_write lk_X5_306 rfl dX5_writeTune_79 (by omega) (by omega) rfl (Or.inl rfl) (fun σ79 l79 h79 => ?_)
          obtain ⟨e79, w79⟩ := h79
          subst e79
          refine g_iinc1 dX5_writeTune_82 rfl (by decide) ?_
          refine g_goto (tgt := 7) dX5_writeTune_85 rfl ?_
          refine ih (by omega) _ _ _ (by push_cast; omega) ?_
          rw [wtL, ← List.append_assoc, hM]
          unfold wtN
          first
            | (rw [if_pos h42]; exact w48)
            | (rw [if_neg h42, if_pos h57]; exact w79)
            | (rw [if_neg h42, if_neg (by omega)]; rw [List.append_assoc] at w79; exact w79)
      · refine g_aload0 dX5_writeTune_45 ?_
        refine g_bipush dX5_writeTune_46 (by decide) ?_
        refine f_cV1m (write_w wm (by omega)) rfl (by decide) rfl oY_X5_write oI_X5_write lk_X5_306 rfl dX5_writeTune_48 (by omega) (by omega) rfl (Or.inl rfl) (fun σ48 l48 h48 => ?_)
        obtain ⟨e48, w48⟩ := h48
        subst e48
        refine g_goto (tgt := 82) dX5_writeTune_51 rfl ?_
        refine g_iinc1 dX5_writeTune_82 rfl (by decide) ?_
        refine g_goto (tgt := 7) dX5_writeTune_85 rfl ?_
        refine ih (by omega) _ _ _ (by push_cast; omega) ?_
        rw [wtL, ← List.append_assoc, hM]
        unfold wtN
        first
          | (rw [if_pos h42]; exact w48)
          | (rw [if_neg h42, if_pos h57]; exact w79)
          | (rw [if_neg h42, if_neg (by omega)]; rw [List.append_assoc] at w79; exact w79)
    refine g_iload1 dX5_writeTune_7 ?_
    refine g_aload0 dX5_writeTune_8 ?_
    refine f_getr (r := 1) rfl (by decide) rfl rfl fl_X5_10 dX5_writeTune_9 ?_
    refine f_geti (J := 9) rfl (by decide) rfl rfl fl_X5_101 dX5_writeTune_12 ?_
    rw [w.1 1 (by decide) (by decide), hc.f9, ho.nI]
    refine g_icmp_ge ⟨by omega, by omega⟩ ⟨by omega, by omega⟩ (tgt := 88) dX5_writeTune_15 rfl (fun h15 => ?_) (fun h15 => ?_)
    · have e9 : q = wN s := by omega
      subst e9
      refine g_aload0 dX5_writeTune_88 ?_
      refine f_geti (J := 9) rfl (by decide) rfl rfl fl_X5_47 dX5_writeTune_89 ?_
      rw [w.2.2.1]
      refine g_iretI rfl dX5_writeTune_92 ?_
      exact fn_ret ⟨rfl, w, rfl⟩
    · refine g_iload1 dX5_writeTune_18 ?_
      refine g_if_le ⟨by omega, by omega⟩ (tgt := 28) dX5_writeTune_19 rfl (fun h19 => ?_) (fun h19 => ?_)
      · first
          | exact tail (by omega) _ _ _ (by rw [List.length_append]; show _ + 1 ≤ _; omega) w25 (by rw [if_neg (by omega)])
          | exact tail (by omega) _ _ _ (by omega) w (by rw [if_pos (by omega), List.append_nil])
      · refine g_aload0 dX5_writeTune_22 ?_
        refine g_bipush dX5_writeTune_23 (by decide) ?_
        refine f_cV1m (write_w w (by omega)) rfl (by decide) rfl oY_X5_write oI_X5_write lk_X5_306 rfl dX5_writeTune_25 (by omega) (by omega) rfl (Or.inl rfl) (fun σ25 l25 h25 => ?_)
        obtain ⟨e25, w25⟩ := h25
        subst e25
        first
          | exact tail (by omega) _ _ _ (by rw [List.length_append]; show _ + 1 ≤ _; omega) w25 (by rw [if_neg (by omega)])
          | exact tail (by omega) _ _ _ (by omega) w (by rw [if_pos (by omega), List.append_nil])
  refine g_iconst dX5_writeTune_5 ?_
  refine g_istore1 dX5_writeTune_6 rfl (by decide) ?_
  exact loop 0 (Nat.zero_le _) _ _ _ rfl (Ow.nil σ)
def obV (L : List Int) (x : Int) : Int := if 0 ≤ x ∧ x < (L.length : Int) then L.getD x.toNat 0 else -1
theorem outputByte_ok {L : List Int} (h9 : σ 0 9 = (L.length : Int)) (hL : L.length ≤ 120) (hv : ∀ (j : Nat) (x : Int), L[j]? = some x → σ 16 j = x) {x : Int} (hx : R32 x) : Fw g zX5_outputByte [.ref 0, iv x] σ l (iv (obV L x)) := by
  refine Fn.of [some (.ref 0), some (iv x)] rfl (by decide) (Nat.le_of_ble_eq_true rfl) rfl ?_
  refine g_iload1 dX5_outputByte_0 ?_
  refine g_if_lt hx (tgt := 23) dX5_outputByte_1 rfl (fun h1 => ?_) (fun h1 => ?_)
  · refine g_iconst dX5_outputByte_23 ?_
    refine g_iretI rfl dX5_outputByte_24 ?_
    first
      | exact Fw.ret (by unfold obV; rw [if_neg (by omega)])
      | exact Fw.ret (by
          unfold obV
          rw [if_pos ⟨by omega, by omega⟩]
          have h2 := hv x.toNat (L.getD x.toNat 0) (by rw [List.getD_eq_getElem?_getD, List.getElem?_eq_getElem (by omega)]; rfl)
          rw [show ((x.toNat : Nat) : Int) = x from by omega] at h2
          exact h2)
  · refine g_iload1 dX5_outputByte_4 ?_
    refine g_aload0 dX5_outputByte_5 ?_
    refine f_geti (J := 9) rfl (by decide) rfl rfl fl_X5_47 dX5_outputByte_6 ?_
    rw [h9]
    refine g_icmp_ge hx ⟨by omega, by omega⟩ (tgt := 23) dX5_outputByte_9 rfl (fun h9 => ?_) (fun h9 => ?_)
    · refine g_iconst dX5_outputByte_23 ?_
      refine g_iretI rfl dX5_outputByte_24 ?_
      first
        | exact Fw.ret (by unfold obV; rw [if_neg (by omega)])
        | exact Fw.ret (by
            unfold obV
            rw [if_pos ⟨by omega, by omega⟩]
            have h2 := hv x.toNat (L.getD x.toNat 0) (by rw [List.getD_eq_getElem?_getD, List.getElem?_eq_getElem (by omega)]; rfl)
            rw [show ((x.toNat : Nat) : Int) = x from by omega] at h2
            exact h2)
    · refine g_aload0 dX5_outputByte_12 ?_
      refine f_getr (r := 16) rfl (by decide) rfl rfl fl_X5_44 dX5_outputByte_13 ?_
      refine g_iload1 dX5_outputByte_16 ?_
      refine f_cS2w (atI rfl (by decide) (by omega) (by show x < (120 : Nat); omega)) oY_X5_at oT_X5_at lk_X5_164 rfl dX5_outputByte_17 rfl (Or.inl rfl) ?_
      refine g_goto (tgt := 24) dX5_outputByte_20 rfl ?_
      refine g_iretI rfl dX5_outputByte_24 ?_
      first
        | exact Fw.ret (by unfold obV; rw [if_neg (by omega)])
        | exact Fw.ret (by
            unfold obV
            rw [if_pos ⟨by omega, by omega⟩]
            have h2 := hv x.toNat (L.getD x.toNat 0) (by rw [List.getD_eq_getElem?_getD, List.getElem?_eq_getElem (by omega)]; rfl)
            rw [show ((x.toNat : Nat) : Int) = x from by omega] at h2
            exact h2)
end C58
