/-! The class's actions on the tune -/
section C56
variable {g : gT} {σ : sT} {l : Nat → Nat}
def adS (s : Int → Int) (t : Int) : Int → Int := su (su s (27 + s 9) t) 9 (s 9 + 1)
theorem adS_e {s : Int → Int} {t : Int} (h : 0 ≤ s 9) (k : Nat) (hk : k < 27) (h9 : k ≠ 9) : adS s t k = s k := by
  unfold adS
  rw [su_ne (by omega), su_ne (by omega)]
theorem adS_9 {s : Int → Int} {t : Int} : adS s t 9 = s 9 + 1 := su_eq
theorem adS_12 {s : Int → Int} {t : Int} (h : 0 ≤ s 9) : adS s t 12 = s 12 := adS_e h 12 (by decide) (by decide)
theorem adS_t {s : Int → Int} {t : Int} (h : 0 ≤ s 9) {k : Int} (k0 : 0 ≤ k) : wTu (adS s t) k = if k = s 9 then t else wTu s k := by
  unfold wTu adS
  rw [su_ne (by omega)]
  unfold su
  by_cases c : k = s 9
  · rw [if_pos c, if_pos (by omega)]
  · rw [if_neg c, if_neg (by omega)]
theorem addNote_ok {B : Int} {s : Int → Int} {n : Nat} {P : Nat → Int → Int} (hI : Ic σ l B s n P) {t : Int} (hx : R32 t) (h : -1 ≤ t ∧ t ≤ 24) (hn : s 9 < 40) : Fs g zX5_addNote [.ref 0, iv t] σ l (iv (s 9)) B (adS s t) (nP n) (pP n s P) := by
  have ho := hI.K.ok
  have hc := hI.K.st
  have hn0 := ho.notes.1
  have hho := ho.holes
  refine Fn.of [some (.ref 0), some (iv t)] rfl (by decide) (Nat.le_of_ble_eq_true rfl) rfl ?_
  refine g_aload0 dX5_addNote_0 ?_
  refine g_iload1 dX5_addNote_1 ?_
  refine g_iconst dX5_addNote_2 ?_
  refine g_bipush dX5_addNote_3 (by decide) ?_
  refine f_cV3d (needRange_ok hx ⟨by decide, by decide⟩ ⟨by decide, by decide⟩ h) rfl (by decide) rfl oY_X5_needRange oI_X5_needRange lk_X5_110 rfl dX5_addNote_5 rfl (Or.inl rfl) ?_
  refine g_aload0 dX5_addNote_8 ?_
  refine f_getr (r := 1) rfl (by decide) rfl rfl fl_X5_10 dX5_addNote_9 ?_
  refine f_geti (J := 9) rfl (by decide) rfl rfl fl_X5_101 dX5_addNote_12 ?_
  rw [hc.f9]
  refine g_bipush dX5_addNote_15 (by decide) ?_
  refine g_icmp_lt ⟨by omega, by omega⟩ ⟨by decide, by decide⟩ (tgt := 23) dX5_addNote_17 rfl (fun h17 => ?_) (fun h17 => absurd h17 (by omega))
  refine g_aload0 dX5_addNote_23 ?_
  refine g_iconst dX5_addNote_24 ?_
  refine f_cV1d (rem_s (kp := 2) hI ⟨by decide, by decide⟩) rfl (by decide) rfl oY_X5_remember oI_X5_remember lk_X5_280 rfl dX5_addNote_25 rfl (Or.inl rfl) ?_
  have hr := rem_c (kp := 2) hI
  obtain ⟨ρ, hρ⟩ : ∃ ρ, ρ = remS σ (σ 0 3).toNat 2 := ⟨_, rfl⟩
  rw [← hρ] at hr ⊢
  refine g_aload0 dX5_addNote_28 ?_
  refine f_getr (r := 1) rfl (by decide) rfl rfl fl_X5_10 dX5_addNote_29 ?_
  refine f_getr (r := 4) rfl (by decide) rfl rfl fl_X5_242 dX5_addNote_32 ?_
  refine g_aload0 dX5_addNote_35 ?_
  refine f_getr (r := 1) rfl (by decide) rfl rfl fl_X5_10 dX5_addNote_36 ?_
  refine f_geti (J := 9) rfl (by decide) rfl rfl fl_X5_101 dX5_addNote_39 ?_
  rw [hr.f9]
  refine g_iload1 dX5_addNote_42 ?_
  refine f_cS3d (putI rfl (by decide) (by omega) (by show s 9 < (40 : Nat); omega)) oY_X5_put oT_X5_put lk_X5_283 rfl dX5_addNote_43 rfl (Or.inl rfl) ?_
  refine g_aload0 dX5_addNote_46 ?_
  refine f_getr (r := 1) rfl (by decide) rfl rfl fl_X5_10 dX5_addNote_47 ?_
  refine g_dup rfl dX5_addNote_50 ?_
  refine f_geti (J := 9) rfl (by decide) rfl rfl fl_X5_101 dX5_addNote_51 ?_
  rw [up_n (by decide), hr.f9]
  refine g_iconst dX5_addNote_54 ?_
  refine g_iadd dX5_addNote_55 ?_
  refine f_puti (J := 9) rfl (by decide) rfl rfl fl_X5_101 rfl (fun _ _ _ h => by cases h; rfl) dX5_addNote_56 ?_
  refine g_aload0 dX5_addNote_59 ?_
  refine f_getr (r := 1) rfl (by decide) rfl rfl fl_X5_10 dX5_addNote_60 ?_
  refine f_geti (J := 9) rfl (by decide) rfl rfl fl_X5_101 dX5_addNote_63 ?_
  rw [up_eq]
  refine g_iconst dX5_addNote_66 ?_
  refine g_isub dX5_addNote_67 ?_
  refine g_iretI rfl dX5_addNote_68 ?_
  refine Fs.rem hI ⟨by decide, by decide⟩ (by rw [show s 9 + 1 - 1 = s 9 from by omega]) (fun a ha => by rw [up_n (by omega), up_n (by omega), hρ]) ?_ ?_ (Int.le_refl _) (Ag.tn hho.2 (fun k a b c => adS_e hn0 k a b))
  · refine hr.tn hho.2 (fun k a b c => adS_e hn0 k a b) (fun j a b => by rw [up_ne (fun z => a z.2), up_n (by decide)]) (by rw [up_eq, adS_9]) (by rw [up_ne (by decide), up_n (by decide), hr.f12, adS_12 hn0]) (by rw [up_n (by decide), up_n (by decide)]) (by rw [up_n (by decide), up_n (by decide)]) (fun k k0 k1 => ?_)
    rw [adS_9] at k1
    rw [up_n (by decide), adS_t hn0 k0]
    by_cases c : k = s 9
    · rw [if_pos c, c, up_eq]
    · rw [if_neg c, up_ne (fun z => c z.2)]
      exact hr.tu k k0 (by omega)
  · have hpl := ho.place
    refine ho.tn (fun k a b c => adS_e hn0 k a b) (by rw [adS_9]; omega) (by rw [adS_12 hn0, adS_9]; omega) (fun k k0 k1 => ?_)
    rw [adS_9] at k1
    rw [adS_t hn0 k0]
    split
    · exact h
    · exact ho.tune k k0 (by omega)
theorem addNote_full {B : Int} {s : Int → Int} (ho : SOK B s) (hc : CSt σ 1 s) {t : Int} (hx : R32 t) (h : -1 ≤ t ∧ t ≤ 24) (hn : s 9 = 40) : Fw g zX5_addNote [.ref 0, iv t] σ l (iv (-2)) := by
  refine Fn.of [some (.ref 0), some (iv t)] rfl (by decide) (Nat.le_of_ble_eq_true rfl) rfl ?_
  refine g_aload0 dX5_addNote_0 ?_
  refine g_iload1 dX5_addNote_1 ?_
  refine g_iconst dX5_addNote_2 ?_
  refine g_bipush dX5_addNote_3 (by decide) ?_
  refine f_cV3d (needRange_ok hx ⟨by decide, by decide⟩ ⟨by decide, by decide⟩ h) rfl (by decide) rfl oY_X5_needRange oI_X5_needRange lk_X5_110 rfl dX5_addNote_5 rfl (Or.inl rfl) ?_
  refine g_aload0 dX5_addNote_8 ?_
  refine f_getr (r := 1) rfl (by decide) rfl rfl fl_X5_10 dX5_addNote_9 ?_
  refine f_geti (J := 9) rfl (by decide) rfl rfl fl_X5_101 dX5_addNote_12 ?_
  rw [hc.f9]
  refine g_bipush dX5_addNote_15 (by decide) ?_
  refine g_icmp_lt ⟨by omega, by omega⟩ ⟨by decide, by decide⟩ (tgt := 23) dX5_addNote_17 rfl (fun h17 => absurd h17 (by omega)) (fun h17 => ?_)
  refine g_bipush dX5_addNote_20 (by decide) ?_
  refine g_iretI rfl dX5_addNote_22 ?_
  exact Fw.ret rfl
theorem addNote_bad {t : Int} (hx : R32 t) (h : ¬ (-1 ≤ t ∧ t ≤ 24)) : Ft g zX5_addNote [.ref 0, iv t] σ l 0 := by
  refine Fn.of [some (.ref 0), some (iv t)] rfl (by decide) (Nat.le_of_ble_eq_true rfl) rfl ?_
  refine g_aload0 dX5_addNote_0 ?_
  refine g_iload1 dX5_addNote_1 ?_
  refine g_iconst dX5_addNote_2 ?_
  refine g_bipush dX5_addNote_3 (by decide) ?_
  refine f_cV3t (needRange_bad hx ⟨by decide, by decide⟩ ⟨by decide, by decide⟩ h) rfl (by decide) rfl oY_X5_needRange oI_X5_needRange lk_X5_110 rfl dX5_addNote_5 (by omega) (by omega) rfl (Or.inl rfl) rfl ?_
  exact Ft.ret
theorem seS_t {s : Int → Int} {t : Int} {k : Nat} {j : Int} (j0 : 0 ≤ j) : wTu (su s (27 + (k : Int)) t) j = if j = (k : Int) then t else wTu s j := by
  unfold wTu su
  by_cases c : j = (k : Int)
  · rw [if_pos c, if_pos (by omega)]
  · rw [if_neg c, if_neg (by omega)]
theorem setNote_ok {B : Int} {s : Int → Int} {n : Nat} {P : Nat → Int → Int} (hI : Ic σ l B s n P) {k : Nat} (hk : k < wN s) {t : Int} (hx : R32 t) (h : -1 ≤ t ∧ t ≤ 24) : Fs g zX5_setNote [.ref 0, iv (k : Int), iv t] σ l (iv (wTu s k)) B (su s (27 + (k : Int)) t) (nP n) (pP n s P) := by
  have ho := hI.K.ok
  have hc := hI.K.st
  have hn40 := ho.n40
  have hho := ho.holes
  refine Fn.of [some (.ref 0), some (iv (k : Int)), some (iv t), none] rfl (by decide) (Nat.le_of_ble_eq_true rfl) rfl ?_
  refine g_aload0 dX5_setNote_0 ?_
  refine g_iload1 dX5_setNote_1 ?_
  refine f_cV1d (needNote_ok ho hc ⟨by omega, by omega⟩ ⟨by omega, by rw [ho.nI]; omega⟩) rfl (by decide) rfl oY_X5_needNote oI_X5_needNote lk_X5_239 rfl dX5_setNote_2 rfl (Or.inl rfl) ?_
  refine g_aload0 dX5_setNote_5 ?_
  refine g_iload2 dX5_setNote_6 ?_
  refine g_iconst dX5_setNote_7 ?_
  refine g_bipush dX5_setNote_8 (by decide) ?_
  refine f_cV3d (needRange_ok hx ⟨by decide, by decide⟩ ⟨by decide, by decide⟩ h) rfl (by decide) rfl oY_X5_needRange oI_X5_needRange lk_X5_110 rfl dX5_setNote_10 rfl (Or.inl rfl) ?_
  refine g_aload0 dX5_setNote_13 ?_
  refine g_iconst dX5_setNote_14 ?_
  refine f_cV1d (rem_s (kp := 2) hI ⟨by decide, by decide⟩) rfl (by decide) rfl oY_X5_remember oI_X5_remember lk_X5_280 rfl dX5_setNote_15 rfl (Or.inl rfl) ?_
  have hr := rem_c (kp := 2) hI
  obtain ⟨ρ, hρ⟩ : ∃ ρ, ρ = remS σ (σ 0 3).toNat 2 := ⟨_, rfl⟩
  rw [← hρ] at hr ⊢
  refine g_aload0 dX5_setNote_18 ?_
  refine f_getr (r := 1) rfl (by decide) rfl rfl fl_X5_10 dX5_setNote_19 ?_
  refine f_getr (r := 4) rfl (by decide) rfl rfl fl_X5_242 dX5_setNote_22 ?_
  refine g_iload1 dX5_setNote_25 ?_
  refine f_cS2w (atI rfl (by decide) (by omega) (by show (k : Int) < (40 : Nat); omega)) oY_X5_at oT_X5_at lk_X5_164 rfl dX5_setNote_26 rfl (Or.inl rfl) ?_
  rw [hr.tu k (by omega) (by rw [ho.nI]; omega)]
  refine g_istore3 dX5_setNote_29 rfl (by decide) ?_
  refine g_aload0 dX5_setNote_30 ?_
  refine f_getr (r := 1) rfl (by decide) rfl rfl fl_X5_10 dX5_setNote_31 ?_
  refine f_getr (r := 4) rfl (by decide) rfl rfl fl_X5_242 dX5_setNote_34 ?_
  refine g_iload1 dX5_setNote_37 ?_
  refine g_iload2 dX5_setNote_38 ?_
  refine f_cS3d (putI rfl (by decide) (by omega) (by show (k : Int) < (40 : Nat); omega)) oY_X5_put oT_X5_put lk_X5_283 rfl dX5_setNote_39 rfl (Or.inl rfl) ?_
  refine g_iload3 dX5_setNote_42 ?_
  refine g_iretI rfl dX5_setNote_43 ?_
  have e : ∀ j : Nat, j < 27 → j ≠ 9 → j ≠ 12 → su s (27 + (k : Int)) t j = s j := fun j a _ _ => su_ne (by omega)
  refine Fs.rem hI ⟨by decide, by decide⟩ rfl (fun a ha => by rw [up_n (by omega), hρ]) ?_ ?_ (Int.le_refl _) (Ag.tn hho.2 e)
  · refine hr.tn hho.2 e (fun j a b => by rw [up_n (by decide)]) (by rw [up_n (by decide), su_ne (by omega), hr.f9]) (by rw [up_n (by decide), su_ne (by omega), hr.f12]) (by rw [up_n (by decide)]) (by rw [up_n (by decide)]) (fun j k0 k1 => ?_)
    rw [su_ne (by omega)] at k1
    rw [seS_t k0]
    by_cases c : j = (k : Int)
    · rw [if_pos c, c, up_eq]
    · rw [if_neg c, up_ne (fun z => c z.2)]
      exact hr.tu j k0 k1
  · refine ho.tn e (by rw [su_ne (by omega)]; exact ho.notes) (by rw [su_ne (by omega), su_ne (by omega)]; exact ho.place) (fun j k0 k1 => ?_)
    rw [su_ne (by omega)] at k1
    rw [seS_t k0]
    split
    · exact h
    · exact ho.tune j k0 k1
theorem setNote_bad1 {B : Int} {s : Int → Int} (ho : SOK B s) (hc : CSt σ 1 s) {k t : Int} (hx : R32 k) (hb : ¬ (0 ≤ k ∧ k < s 9)) : Ft g zX5_setNote [.ref 0, iv k, iv t] σ l 1 := by
  refine Fn.of [some (.ref 0), some (iv k), some (iv t), none] rfl (by decide) (Nat.le_of_ble_eq_true rfl) rfl ?_
  refine g_aload0 dX5_setNote_0 ?_
  refine g_iload1 dX5_setNote_1 ?_
  refine f_cV1t (needNote_bad ho hc hx hb) rfl (by decide) rfl oY_X5_needNote oI_X5_needNote lk_X5_239 rfl dX5_setNote_2 (by omega) (by omega) rfl (Or.inl rfl) rfl ?_
  exact Ft.ret
theorem setNote_bad2 {B : Int} {s : Int → Int} (ho : SOK B s) (hc : CSt σ 1 s) {k t : Int} (hx : R32 k) (ht : R32 t) (h0 : 0 ≤ k ∧ k < s 9) (hb : ¬ (-1 ≤ t ∧ t ≤ 24)) : Ft g zX5_setNote [.ref 0, iv k, iv t] σ l 0 := by
  refine Fn.of [some (.ref 0), some (iv k), some (iv t), none] rfl (by decide) (Nat.le_of_ble_eq_true rfl) rfl ?_
  refine g_aload0 dX5_setNote_0 ?_
  refine g_iload1 dX5_setNote_1 ?_
  refine f_cV1d (needNote_ok ho hc hx h0) rfl (by decide) rfl oY_X5_needNote oI_X5_needNote lk_X5_239 rfl dX5_setNote_2 rfl (Or.inl rfl) ?_
  refine g_aload0 dX5_setNote_5 ?_
  refine g_iload2 dX5_setNote_6 ?_
  refine g_iconst dX5_setNote_7 ?_
  refine g_bipush dX5_setNote_8 (by decide) ?_
  refine f_cV3t (needRange_bad ht ⟨by decide, by decide⟩ ⟨by decide, by decide⟩ hb) rfl (by decide) rfl oY_X5_needRange oI_X5_needRange lk_X5_110 rfl dX5_setNote_10 (by omega) (by omega) rfl (Or.inl rfl) rfl ?_
  exact Ft.ret
def drP (s : Int → Int) (k : Int) : Int := if (if k < s 12 then s 12 - 1 else s 12) < s 9 - 1 then (if k < s 12 then s 12 - 1 else s 12) else 0
theorem drP_rng {s : Int → Int} {k : Int} (h : 0 ≤ s 12) (hk : 0 ≤ k) : 0 ≤ drP s k ∧ (drP s k = 0 ∨ drP s k < s 9 - 1) := by
  unfold drP
  by_cases c : k < s 12
  · rw [if_pos c]; split <;> omega
  · rw [if_neg c]; split <;> omega
def drS (s : Int → Int) (k : Int) : Int → Int := fun j => if j = 9 then s 9 - 1 else if j = 12 then drP s k else if 27 + k ≤ j ∧ j < 26 + s 9 then s (j + 1) else if j = 26 + s 9 then 0 else s j
theorem drS_e {s : Int → Int} {k : Int} (h : 0 ≤ k) (h9 : k < s 9) (j : Nat) (hj : j < 27) (a : j ≠ 9) (b : j ≠ 12) : drS s k j = s j := by
  unfold drS
  rw [if_neg (by omega), if_neg (by omega), if_neg (by omega), if_neg (by omega)]
theorem drS_9 {s : Int → Int} {k : Int} : drS s k 9 = s 9 - 1 := if_pos rfl
theorem drS_12 {s : Int → Int} {k : Int} : drS s k 12 = drP s k := by unfold drS; rw [if_neg (by decide), if_pos rfl]
theorem drS_t {s : Int → Int} {k j : Int} (j0 : 0 ≤ j) (j1 : j < s 9 - 1) : wTu (drS s k) j = if k ≤ j then wTu s (j + 1) else wTu s j := by
  unfold wTu drS
  rw [if_neg (by omega), if_neg (by omega)]
  by_cases c : k ≤ j
  · rw [if_pos c, if_pos (by omega), show (27 + ((j + 1).toNat : Int)) = 27 + (j.toNat : Int) + 1 from by omega]
  · rw [if_neg c, if_neg (by omega), if_neg (by omega)]
/-- the tune moved down between two places -/
def shf (ρ : sT) (k q : Int) : sT := fun a j => if a = 4 ∧ k ≤ j ∧ j < q then ρ 4 (j + 1) else ρ a j
theorem shf_0 (ρ : sT) (k : Int) : shf ρ k k = ρ := by funext a j; unfold shf; rw [if_neg (by omega)]
theorem shf_n {ρ : sT} {k q : Int} {a : Nat} (h : a ≠ 4) : shf ρ k q a = ρ a := by funext j; unfold shf; rw [if_neg (fun z => h z.1)]
theorem shf_s {ρ : sT} {k q : Int} (h : k ≤ q) : up (shf ρ k q) 4 q (shf ρ k q 4 (q + 1)) = shf ρ k (q + 1) := by
  have e : shf ρ k q 4 (q + 1) = ρ 4 (q + 1) := by unfold shf; rw [if_neg (by omega)]
  rw [e]
  funext a j
  unfold up shf
  by_cases c : a = 4 ∧ j = q
  · rw [if_pos c, if_pos (by omega), c.2]
  · rw [if_neg c]
    by_cases c2 : a = 4 ∧ k ≤ j ∧ j < q
    · rw [if_pos c2, if_pos (by omega)]
    · rw [if_neg c2, if_neg (by omega)]
theorem dropNote_ok {B : Int} {s : Int → Int} {n : Nat} {P : Nat → Int → Int} (hI : Ic σ l B s n P) {k : Nat} (hk : k < wN s) : Fs g zX5_dropNote [.ref 0, iv (k : Int)] σ l (iv (s 9 - 1)) B (drS s k) (nP n) (pP n s P) := by
  have ho := hI.K.ok
  have hc := hI.K.st
  have hn40 := ho.n40
  have hho := ho.holes
  have hNI := ho.nI
  have hpl := ho.place
  refine Fn.of [some (.ref 0), some (iv (k : Int)), none] rfl (by decide) (Nat.le_of_ble_eq_true rfl) rfl ?_
  refine g_aload0 dX5_dropNote_0 ?_
  refine g_iload1 dX5_dropNote_1 ?_
  refine f_cV1d (needNote_ok ho hc ⟨by omega, by omega⟩ ⟨by omega, by rw [ho.nI]; omega⟩) rfl (by decide) rfl oY_X5_needNote oI_X5_needNote lk_X5_239 rfl dX5_dropNote_2 rfl (Or.inl rfl) ?_
  refine g_aload0 dX5_dropNote_5 ?_
  refine g_iconst dX5_dropNote_6 ?_
  refine f_cV1d (rem_s (kp := 2) hI ⟨by decide, by decide⟩) rfl (by decide) rfl oY_X5_remember oI_X5_remember lk_X5_280 rfl dX5_dropNote_7 rfl (Or.inl rfl) ?_
  have hr := rem_c (kp := 2) hI
  obtain ⟨ρ, hρ⟩ : ∃ ρ, ρ = remS σ (σ 0 3).toNat 2 := ⟨_, rfl⟩
  rw [← hρ] at hr ⊢
  have loop : ∀ q, q ≤ wN s - 1 → k ≤ q → ∀ (i : Int), i = (q : Int) → FW g zX5_dropNote 0 0 (fun o τ l' => o = .inl (some (iv (s 9 - 1))) ∧ MF σ τ ∧ Ic τ l B (drS s k) (nP n) (pP n s P) ∧ l' = l) 12 [some (.ref 0), some (iv (k : Int)), some (iv i)] [] (shf ρ k q) l := by
    refine loopUp _ (fun q hq2 ih hkq i hi => ?_)
    subst hi
    replace ih := fun (h : q < wN s - 1) => ih h (by omega)
    refine g_iload2 dX5_dropNote_12 ?_
    refine g_aload0 dX5_dropNote_13 ?_
    refine f_getr (r := 1) rfl (by decide) rfl rfl fl_X5_10 dX5_dropNote_14 ?_
    refine f_geti (J := 9) rfl (by decide) rfl rfl fl_X5_101 dX5_dropNote_17 ?_
    rw [shf_n (by decide), hr.f9]
    refine g_iconst dX5_dropNote_20 ?_
    refine g_isub dX5_dropNote_21 ?_
    refine g_icmp_ge ⟨by omega, by omega⟩ ⟨by omega, by omega⟩ (tgt := 55) dX5_dropNote_22 rfl (fun h22 => ?_) (fun h22 => ?_)
    · have e9 : (q : Int) = s 9 - 1 := by omega
      rw [e9]
      refine g_aload0 dX5_dropNote_55 ?_
      refine f_getr (r := 1) rfl (by decide) rfl rfl fl_X5_10 dX5_dropNote_56 ?_
      refine g_dup rfl dX5_dropNote_59 ?_
      refine f_geti (J := 9) rfl (by decide) rfl rfl fl_X5_101 dX5_dropNote_60 ?_
      rw [shf_n (by decide), hr.f9]
      refine g_iconst dX5_dropNote_63 ?_
      refine g_isub dX5_dropNote_64 ?_
      refine f_puti (J := 9) rfl (by decide) rfl rfl fl_X5_101 rfl (fun _ _ _ h => by cases h; rfl) dX5_dropNote_65 ?_
      refine g_aload0 dX5_dropNote_68 ?_
      refine f_getr (r := 1) rfl (by decide) rfl rfl fl_X5_10 dX5_dropNote_69 ?_
      refine f_geti (J := 12) rfl (by decide) rfl rfl fl_X5_154 dX5_dropNote_72 ?_
      rw [up_ne (by omega), shf_n (by decide), hr.f12]
      refine g_iload1 dX5_dropNote_75 ?_
      refine g_icmp_le ⟨by omega, by omega⟩ ⟨by omega, by omega⟩ (tgt := 92) dX5_dropNote_76 rfl (fun h76 => ?_) (fun h76 => ?_)
      · refine g_aload0 dX5_dropNote_92 ?_
        refine f_getr (r := 1) rfl (by decide) rfl rfl fl_X5_10 dX5_dropNote_93 ?_
        refine f_geti (J := 12) rfl (by decide) rfl rfl fl_X5_154 dX5_dropNote_96 ?_
        first
          | rw [up_eq]
          | rw [up_ne (by omega), shf_n (by decide), hr.f12]
        refine g_aload0 dX5_dropNote_99 ?_
        refine f_getr (r := 1) rfl (by decide) rfl rfl fl_X5_10 dX5_dropNote_100 ?_
        refine f_geti (J := 9) rfl (by decide) rfl rfl fl_X5_101 dX5_dropNote_103 ?_
        first
          | rw [up_ne (by omega), up_eq]
          | rw [up_eq]
        refine g_icmp_lt ⟨by omega, by omega⟩ ⟨by omega, by omega⟩ (tgt := 117) dX5_dropNote_106 rfl (fun h106 => ?_) (fun h106 => ?_)
        · refine g_aload0 dX5_dropNote_117 ?_
          refine f_getr (r := 1) rfl (by decide) rfl rfl fl_X5_10 dX5_dropNote_118 ?_
          refine f_geti (J := 9) rfl (by decide) rfl rfl fl_X5_101 dX5_dropNote_121 ?_
          first
            | rw [up_ne (by omega), up_ne (by omega), up_eq]
            | rw [up_ne (by omega), up_eq]
            | rw [up_eq]
          refine g_iretI rfl dX5_dropNote_124 ?_
          refine Fs.rem hI ⟨by decide, by decide⟩ (by rfl) (fun a ha => by rw [up_n (by omega), shf_n (by omega), hρ]) ?_ ?_ (Int.le_refl _) (Ag.tn hho.2 (drS_e (by omega) (by omega)))
          · refine hr.tn hho.2 (drS_e (by omega) (by omega)) (fun j a b => by rw [up_ne (by omega), shf_n (by decide)]) (by rw [up_eq, drS_9]) (by rw [up_ne (by omega), shf_n (by decide), hr.f12, drS_12]; unfold drP; rw [if_neg (show ¬ ((k : Int) < s 12) from by omega), if_pos (show s 12 < s 9 - 1 from by omega)]) (by rw [up_n (by omega), shf_n (by decide)]) (by rw [up_n (by omega), shf_n (by decide)]) (fun j k0 k1 => ?_)
            rw [drS_9] at k1
            rw [drS_t k0 k1, up_n (by omega)]
            unfold shf
            by_cases c : (k : Int) ≤ j
            · rw [if_pos c, if_pos (by omega)]
              exact hr.tu (j + 1) (by omega) (by omega)
            · rw [if_neg c, if_neg (by omega)]
              exact hr.tu j (by omega) (by omega)
          · refine ho.tn (drS_e (by omega) (by omega)) (by rw [drS_9]; omega) (by rw [drS_12, drS_9]; exact drP_rng hpl.1 (by omega)) (fun j k0 k1 => ?_)
            rw [drS_9] at k1
            rw [drS_t k0 k1]
            split
            · exact ho.tune _ (by omega) (by omega)
            · exact ho.tune _ (by omega) (by omega)
        · refine g_aload0 dX5_dropNote_109 ?_
          refine f_getr (r := 1) rfl (by decide) rfl rfl fl_X5_10 dX5_dropNote_110 ?_
          refine g_iconst dX5_dropNote_113 ?_
          refine f_puti (J := 12) rfl (by decide) rfl rfl fl_X5_154 rfl (fun _ _ _ h => by cases h; rfl) dX5_dropNote_114 ?_
          refine g_aload0 dX5_dropNote_117 ?_
          refine f_getr (r := 1) rfl (by decide) rfl rfl fl_X5_10 dX5_dropNote_118 ?_
          refine f_geti (J := 9) rfl (by decide) rfl rfl fl_X5_101 dX5_dropNote_121 ?_
          first
            | rw [up_ne (by omega), up_ne (by omega), up_eq]
            | rw [up_ne (by omega), up_eq]
            | rw [up_eq]
          refine g_iretI rfl dX5_dropNote_124 ?_
          refine Fs.rem hI ⟨by decide, by decide⟩ (by rfl) (fun a ha => by rw [up_n (by omega), up_n (by omega), shf_n (by omega), hρ]) ?_ ?_ (Int.le_refl _) (Ag.tn hho.2 (drS_e (by omega) (by omega)))
          · refine hr.tn hho.2 (drS_e (by omega) (by omega)) (fun j a b => by rw [up_ne (by omega), up_ne (by omega), shf_n (by decide)]) (by rw [up_ne (by omega), up_eq, drS_9]) (by rw [up_eq, drS_12]; unfold drP; rw [if_neg (show ¬ ((k : Int) < s 12) from by omega), if_neg (show ¬ (s 12 < s 9 - 1) from by omega)]) (by rw [up_n (by omega), up_n (by omega), shf_n (by decide)]) (by rw [up_n (by omega), up_n (by omega), shf_n (by decide)]) (fun j k0 k1 => ?_)
            rw [drS_9] at k1
            rw [drS_t k0 k1, up_n (by omega), up_n (by omega)]
            unfold shf
            by_cases c : (k : Int) ≤ j
            · rw [if_pos c, if_pos (by omega)]
              exact hr.tu (j + 1) (by omega) (by omega)
            · rw [if_neg c, if_neg (by omega)]
              exact hr.tu j (by omega) (by omega)
          · refine ho.tn (drS_e (by omega) (by omega)) (by rw [drS_9]; omega) (by rw [drS_12, drS_9]; exact drP_rng hpl.1 (by omega)) (fun j k0 k1 => ?_)
            rw [drS_9] at k1
            rw [drS_t k0 k1]
            split
            · exact ho.tune _ (by omega) (by omega)
            · exact ho.tune _ (by omega) (by omega)
      · refine g_aload0 dX5_dropNote_79 ?_
        refine f_getr (r := 1) rfl (by decide) rfl rfl fl_X5_10 dX5_dropNote_80 ?_
        refine g_dup rfl dX5_dropNote_83 ?_
        refine f_geti (J := 12) rfl (by decide) rfl rfl fl_X5_154 dX5_dropNote_84 ?_
        rw [up_ne (by omega), shf_n (by decide), hr.f12]
        refine g_iconst dX5_dropNote_87 ?_
        refine g_isub dX5_dropNote_88 ?_
        refine f_puti (J := 12) rfl (by decide) rfl rfl fl_X5_154 rfl (fun _ _ _ h => by cases h; rfl) dX5_dropNote_89 ?_
        refine g_aload0 dX5_dropNote_92 ?_
        refine f_getr (r := 1) rfl (by decide) rfl rfl fl_X5_10 dX5_dropNote_93 ?_
        refine f_geti (J := 12) rfl (by decide) rfl rfl fl_X5_154 dX5_dropNote_96 ?_
        first
          | rw [up_eq]
          | rw [up_ne (by omega), shf_n (by decide), hr.f12]
        refine g_aload0 dX5_dropNote_99 ?_
        refine f_getr (r := 1) rfl (by decide) rfl rfl fl_X5_10 dX5_dropNote_100 ?_
        refine f_geti (J := 9) rfl (by decide) rfl rfl fl_X5_101 dX5_dropNote_103 ?_
        first
          | rw [up_ne (by omega), up_eq]
          | rw [up_eq]
        refine g_icmp_lt ⟨by omega, by omega⟩ ⟨by omega, by omega⟩ (tgt := 117) dX5_dropNote_106 rfl (fun h106 => ?_) (fun h106 => ?_)
        · refine g_aload0 dX5_dropNote_117 ?_
          refine f_getr (r := 1) rfl (by decide) rfl rfl fl_X5_10 dX5_dropNote_118 ?_
          refine f_geti (J := 9) rfl (by decide) rfl rfl fl_X5_101 dX5_dropNote_121 ?_
          first
            | rw [up_ne (by omega), up_ne (by omega), up_eq]
            | rw [up_ne (by omega), up_eq]
            | rw [up_eq]
          refine g_iretI rfl dX5_dropNote_124 ?_
          refine Fs.rem hI ⟨by decide, by decide⟩ (by rfl) (fun a ha => by rw [up_n (by omega), up_n (by omega), shf_n (by omega), hρ]) ?_ ?_ (Int.le_refl _) (Ag.tn hho.2 (drS_e (by omega) (by omega)))
          · refine hr.tn hho.2 (drS_e (by omega) (by omega)) (fun j a b => by rw [up_ne (by omega), up_ne (by omega), shf_n (by decide)]) (by rw [up_ne (by omega), up_eq, drS_9]) (by rw [up_eq, drS_12]; unfold drP; rw [if_pos (show (k : Int) < s 12 from by omega), if_pos (show s 12 - 1 < s 9 - 1 from by omega)]) (by rw [up_n (by omega), up_n (by omega), shf_n (by decide)]) (by rw [up_n (by omega), up_n (by omega), shf_n (by decide)]) (fun j k0 k1 => ?_)
            rw [drS_9] at k1
            rw [drS_t k0 k1, up_n (by omega), up_n (by omega)]
            unfold shf
            by_cases c : (k : Int) ≤ j
            · rw [if_pos c, if_pos (by omega)]
              exact hr.tu (j + 1) (by omega) (by omega)
            · rw [if_neg c, if_neg (by omega)]
              exact hr.tu j (by omega) (by omega)
          · refine ho.tn (drS_e (by omega) (by omega)) (by rw [drS_9]; omega) (by rw [drS_12, drS_9]; exact drP_rng hpl.1 (by omega)) (fun j k0 k1 => ?_)
            rw [drS_9] at k1
            rw [drS_t k0 k1]
            split
            · exact ho.tune _ (by omega) (by omega)
            · exact ho.tune _ (by omega) (by omega)
        · refine g_aload0 dX5_dropNote_109 ?_
          refine f_getr (r := 1) rfl (by decide) rfl rfl fl_X5_10 dX5_dropNote_110 ?_
          refine g_iconst dX5_dropNote_113 ?_
          refine f_puti (J := 12) rfl (by decide) rfl rfl fl_X5_154 rfl (fun _ _ _ h => by cases h; rfl) dX5_dropNote_114 ?_
          refine g_aload0 dX5_dropNote_117 ?_
          refine f_getr (r := 1) rfl (by decide) rfl rfl fl_X5_10 dX5_dropNote_118 ?_
          refine f_geti (J := 9) rfl (by decide) rfl rfl fl_X5_101 dX5_dropNote_121 ?_
          first
            | rw [up_ne (by omega), up_ne (by omega), up_eq]
            | rw [up_ne (by omega), up_eq]
            | rw [up_eq]
          refine g_iretI rfl dX5_dropNote_124 ?_
          refine Fs.rem hI ⟨by decide, by decide⟩ (by rfl) (fun a ha => by rw [up_n (by omega), up_n (by omega), up_n (by omega), shf_n (by omega), hρ]) ?_ ?_ (Int.le_refl _) (Ag.tn hho.2 (drS_e (by omega) (by omega)))
          · refine hr.tn hho.2 (drS_e (by omega) (by omega)) (fun j a b => by rw [up_ne (by omega), up_ne (by omega), up_ne (by omega), shf_n (by decide)]) (by rw [up_ne (by omega), up_ne (by omega), up_eq, drS_9]) (by rw [up_eq, drS_12]; unfold drP; rw [if_pos (show (k : Int) < s 12 from by omega), if_neg (show ¬ (s 12 - 1 < s 9 - 1) from by omega)]) (by rw [up_n (by omega), up_n (by omega), up_n (by omega), shf_n (by decide)]) (by rw [up_n (by omega), up_n (by omega), up_n (by omega), shf_n (by decide)]) (fun j k0 k1 => ?_)
            rw [drS_9] at k1
            rw [drS_t k0 k1, up_n (by omega), up_n (by omega), up_n (by omega)]
            unfold shf
            by_cases c : (k : Int) ≤ j
            · rw [if_pos c, if_pos (by omega)]
              exact hr.tu (j + 1) (by omega) (by omega)
            · rw [if_neg c, if_neg (by omega)]
              exact hr.tu j (by omega) (by omega)
          · refine ho.tn (drS_e (by omega) (by omega)) (by rw [drS_9]; omega) (by rw [drS_12, drS_9]; exact drP_rng hpl.1 (by omega)) (fun j k0 k1 => ?_)
            rw [drS_9] at k1
            rw [drS_t k0 k1]
            split
            · exact ho.tune _ (by omega) (by omega)
            · exact ho.tune _ (by omega) (by omega)
    · refine g_aload0 dX5_dropNote_25 ?_
      refine f_getr (r := 1) rfl (by decide) rfl rfl fl_X5_10 dX5_dropNote_26 ?_
      refine f_getr (r := 4) rfl (by decide) rfl rfl fl_X5_242 dX5_dropNote_29 ?_
      refine g_iload2 dX5_dropNote_32 ?_
      refine g_aload0 dX5_dropNote_33 ?_
      refine f_getr (r := 1) rfl (by decide) rfl rfl fl_X5_10 dX5_dropNote_34 ?_
      refine f_getr (r := 4) rfl (by decide) rfl rfl fl_X5_242 dX5_dropNote_37 ?_
      refine g_iload2 dX5_dropNote_40 ?_
      refine g_iconst dX5_dropNote_41 ?_
      refine g_iadd dX5_dropNote_42 ?_
      refine f_cS2w (atI rfl (by decide) (by omega) (by show (q : Int) + 1 < (40 : Nat); omega)) oY_X5_at oT_X5_at lk_X5_164 rfl dX5_dropNote_43 rfl (Or.inl rfl) ?_
      refine f_cS3d (putI rfl (by decide) (by omega) (by show (q : Int) < (40 : Nat); omega)) oY_X5_put oT_X5_put lk_X5_283 rfl dX5_dropNote_46 rfl (Or.inl rfl) ?_
      rw [shf_s (by omega)]
      refine g_iinc2 dX5_dropNote_49 rfl (by decide) ?_
      refine g_goto (tgt := 12) dX5_dropNote_52 rfl ?_
      exact ih (by omega) _ (by push_cast; omega)
  refine g_iload1 dX5_dropNote_10 ?_
  refine g_istore2 dX5_dropNote_11 rfl (by decide) ?_
  rw [← shf_0 ρ (k : Int)]
  exact loop k (by omega) (Nat.le_refl _) _ rfl
theorem dropNote_bad {B : Int} {s : Int → Int} (ho : SOK B s) (hc : CSt σ 1 s) {x : Int} (hx : R32 x) (h : ¬ (0 ≤ x ∧ x < s 9)) : Ft g zX5_dropNote [.ref 0, iv x] σ l 1 := by
  refine Fn.of [some (.ref 0), some (iv x), none] rfl (by decide) (Nat.le_of_ble_eq_true rfl) rfl ?_
  refine g_aload0 dX5_dropNote_0 ?_
  refine g_iload1 dX5_dropNote_1 ?_
  refine f_cV1t (needNote_bad ho hc hx h) rfl (by decide) rfl oY_X5_needNote oI_X5_needNote lk_X5_239 rfl dX5_dropNote_2 (by omega) (by omega) rfl (Or.inl rfl) rfl ?_
  exact Ft.ret
def rpS (s : Int → Int) (a b : Int) : Int → Int := fun j => if j = 9 then s 9 + (b - a + 1) else if 27 + b < j ∧ j < 27 + s 9 + (b - a + 1) then s (j - (b - a + 1)) else s j
theorem rpS_e {s : Int → Int} {a b : Int} (h : 0 ≤ b) (j : Nat) (hj : j < 27) (c : j ≠ 9) : rpS s a b j = s j := by
  unfold rpS
  rw [if_neg (by omega), if_neg (by omega)]
theorem rpS_9 {s : Int → Int} {a b : Int} : rpS s a b 9 = s 9 + (b - a + 1) := if_pos rfl
theorem rpS_t {s : Int → Int} {a b j : Int} (ha : 0 ≤ a) (hb : a ≤ b) (j0 : 0 ≤ j) (j1 : j < s 9 + (b - a + 1)) : wTu (rpS s a b) j = if b < j then wTu s (j - (b - a + 1)) else wTu s j := by
  unfold wTu rpS
  rw [if_neg (by omega)]
  by_cases c : b < j
  · rw [if_pos c, if_pos (by omega), show (27 + ((j - (b - a + 1)).toNat : Int)) = 27 + (j.toNat : Int) - (b - a + 1) from by omega]
  · rw [if_neg c, if_neg (by omega)]
/-- the tune moved up from a place on -/
def shu (ρ : sT) (m q N : Int) : sT := fun a j => if a = 4 ∧ q + m ≤ j ∧ j < N + m then ρ 4 (j - m) else ρ a j
theorem shu_0 (ρ : sT) (m N : Int) : shu ρ m N N = ρ := by funext a j; unfold shu; rw [if_neg (by omega)]
theorem shu_n {ρ : sT} {m q N : Int} {a : Nat} (h : a ≠ 4) : shu ρ m q N a = ρ a := by funext j; unfold shu; rw [if_neg (fun z => h z.1)]
theorem shu_s {ρ : sT} {m q N : Int} (h : q < N) (hm : 0 < m) : up (shu ρ m (q + 1) N) 4 (q + m) (shu ρ m (q + 1) N 4 q) = shu ρ m q N := by
  have e : shu ρ m (q + 1) N 4 q = ρ 4 q := by unfold shu; rw [if_neg (by omega)]
  rw [e]
  funext a j
  unfold up shu
  by_cases c : a = 4 ∧ j = q + m
  · rw [if_pos c, if_pos (by omega), c.2, show q + m - m = q from by omega]
  · rw [if_neg c]
    by_cases c2 : a = 4 ∧ q + 1 + m ≤ j ∧ j < N + m
    · rw [if_pos c2, if_pos (by omega)]
    · rw [if_neg c2, if_neg (by omega)]
theorem repeat_ok {B : Int} {s : Int → Int} {n : Nat} {P : Nat → Int → Int} (hI : Ic σ l B s n P) {a b : Int} (ha : 0 ≤ a) (hab : a ≤ b) (hb : b < s 9) (hf : s 9 + (b - a + 1) ≤ 40) : Fs g zX5_repeat [.ref 0, iv a, iv b] σ l (iv (s 9 + (b - a + 1))) B (rpS s a b) (nP n) (pP n s P) := by
  have ho := hI.K.ok
  have hc := hI.K.st
  have hn40 := ho.notes
  have hho := ho.holes
  have hpl := ho.place
  obtain ⟨m, hm⟩ : ∃ m, m = b - a + 1 := ⟨_, rfl⟩
  refine Fn.of [some (.ref 0), some (iv a), some (iv b), none, none] rfl (by decide) (Nat.le_of_ble_eq_true rfl) rfl ?_
  refine g_aload0 dX5_repeat_0 ?_
  refine g_iload1 dX5_repeat_1 ?_
  refine f_cV1d (needNote_ok ho hc ⟨by omega, by omega⟩ ⟨by omega, by omega⟩) rfl (by decide) rfl oY_X5_needNote oI_X5_needNote lk_X5_239 rfl dX5_repeat_2 rfl (Or.inl rfl) ?_
  refine g_aload0 dX5_repeat_5 ?_
  refine g_iload2 dX5_repeat_6 ?_
  refine f_cV1d (needNote_ok ho hc ⟨by omega, by omega⟩ ⟨by omega, by omega⟩) rfl (by decide) rfl oY_X5_needNote oI_X5_needNote lk_X5_239 rfl dX5_repeat_7 rfl (Or.inl rfl) ?_
  refine g_iload2 dX5_repeat_10 ?_
  refine g_iload1 dX5_repeat_11 ?_
  refine g_icmp_ge ⟨by omega, by omega⟩ ⟨by omega, by omega⟩ (tgt := 23) dX5_repeat_12 rfl (fun h12 => ?_) (fun h12 => absurd h12 (by omega))
  refine g_iload2 dX5_repeat_23 ?_
  refine g_iload1 dX5_repeat_24 ?_
  refine g_isub dX5_repeat_25 ?_
  refine g_iconst dX5_repeat_26 ?_
  refine g_iadd dX5_repeat_27 ?_
  rw [← hm]
  refine g_istore3 dX5_repeat_28 rfl (by decide) ?_
  refine g_aload0 dX5_repeat_29 ?_
  refine f_getr (r := 1) rfl (by decide) rfl rfl fl_X5_10 dX5_repeat_30 ?_
  refine f_geti (J := 9) rfl (by decide) rfl rfl fl_X5_101 dX5_repeat_33 ?_
  rw [hc.f9]
  refine g_iload3 dX5_repeat_36 ?_
  refine g_iadd dX5_repeat_37 ?_
  refine g_bipush dX5_repeat_38 (by decide) ?_
  refine g_icmp_le ⟨by omega, by omega⟩ ⟨by decide, by decide⟩ (tgt := 46) dX5_repeat_40 rfl (fun h40 => ?_) (fun h40 => absurd h40 (by omega))
  refine g_aload0 dX5_repeat_46 ?_
  refine g_iconst dX5_repeat_47 ?_
  refine f_cV1d (rem_s (kp := 2) hI ⟨by decide, by decide⟩) rfl (by decide) rfl oY_X5_remember oI_X5_remember lk_X5_280 rfl dX5_repeat_48 rfl (Or.inl rfl) ?_
  have hr := rem_c (kp := 2) hI
  obtain ⟨ρ, hρ⟩ : ∃ ρ, ρ = remS σ (σ 0 3).toNat 2 := ⟨_, rfl⟩
  rw [← hρ] at hr ⊢
  refine g_aload0 dX5_repeat_51 ?_
  refine f_getr (r := 1) rfl (by decide) rfl rfl fl_X5_10 dX5_repeat_52 ?_
  refine f_geti (J := 9) rfl (by decide) rfl rfl fl_X5_101 dX5_repeat_55 ?_
  rw [hr.f9]
  refine g_iconst dX5_repeat_58 ?_
  refine g_isub dX5_repeat_59 ?_
  refine g_istore4 dX5_repeat_60 rfl (by decide) ?_
  have loop : ∀ d : Nat, a + (d : Int) ≤ s 9 → ∀ (i : Int), i = a + (d : Int) - 1 → FW g zX5_repeat 0 0 (fun o τ l' => o = .inl (some (iv (s 9 + (b - a + 1)))) ∧ MF σ τ ∧ Ic τ l B (rpS s a b) (nP n) (pP n s P) ∧ l' = l) 62 [some (.ref 0), some (iv a), some (iv b), some (iv m), some (iv i)] [] (shu ρ m (a + (d : Int)) (s 9)) l := by
    intro d
    induction d with
    | zero =>
      intro hd i hi
      rw [show a + ((0 : Nat) : Int) = a from by omega] at hi ⊢
      refine g_iload4 dX5_repeat_62 ?_
      refine g_iload1 dX5_repeat_64 ?_
      refine g_icmp_lt ⟨by omega, by omega⟩ ⟨by omega, by omega⟩ (tgt := 100) dX5_repeat_65 rfl (fun h65 => ?_) (fun h65 => absurd h65 (by omega))
      refine g_aload0 dX5_repeat_100 ?_
      refine f_getr (r := 1) rfl (by decide) rfl rfl fl_X5_10 dX5_repeat_101 ?_
      refine g_dup rfl dX5_repeat_104 ?_
      refine f_geti (J := 9) rfl (by decide) rfl rfl fl_X5_101 dX5_repeat_105 ?_
      rw [shu_n (by decide), hr.f9]
      refine g_iload3 dX5_repeat_108 ?_
      refine g_iadd dX5_repeat_109 ?_
      refine f_puti (J := 9) rfl (by decide) rfl rfl fl_X5_101 rfl (fun _ _ _ h => by cases h; rfl) dX5_repeat_110 ?_
      refine g_aload0 dX5_repeat_113 ?_
      refine f_getr (r := 1) rfl (by decide) rfl rfl fl_X5_10 dX5_repeat_114 ?_
      refine f_geti (J := 9) rfl (by decide) rfl rfl fl_X5_101 dX5_repeat_117 ?_
      rw [up_eq]
      refine g_iretI rfl dX5_repeat_120 ?_
      refine Fs.rem hI ⟨by decide, by decide⟩ (by rw [hm]) (fun A ha => by rw [up_n (by omega), shu_n (by omega), hρ]) ?_ ?_ (Int.le_refl _) (Ag.tn hho.2 (fun k x y _ => rpS_e (by omega) k x y))
      · refine hr.tn hho.2 (fun k x y _ => rpS_e (by omega) k x y) (fun j x y => by rw [up_ne (by omega), shu_n (by decide)]) (by rw [up_eq, rpS_9, hm]) (by rw [up_ne (by omega), shu_n (by decide), hr.f12]; exact (rpS_e (by omega) 12 (by decide) (by decide)).symm) (by rw [up_n (by omega), shu_n (by decide)]) (by rw [up_n (by omega), shu_n (by decide)]) (fun j k0 k1 => ?_)
        rw [rpS_9] at k1
        rw [rpS_t ha hab k0 k1, up_n (by omega), ← hm]
        unfold shu
        by_cases c : b < j
        · rw [if_pos c, if_pos (by omega)]
          exact hr.tu (j - m) (by omega) (by omega)
        · rw [if_neg c, if_neg (by omega)]
          exact hr.tu j (by omega) (by omega)
      · refine ho.tn (fun k x y _ => rpS_e (by omega) k x y) (by rw [rpS_9]; omega) (by rw [rpS_9, show rpS s a b 12 = s 12 from rpS_e (by omega) 12 (by decide) (by decide)]; omega) (fun j k0 k1 => ?_)
        rw [rpS_9] at k1
        rw [rpS_t ha hab k0 k1]
        split
        · exact ho.tune _ (by omega) (by omega)
        · exact ho.tune _ (by omega) (by omega)
    | succ d ih =>
      intro hd i hi
      rw [show i = a + (d : Int) from by omega, show a + ((d + 1 : Nat) : Int) = a + (d : Int) + 1 from by omega]
      refine g_iload4 dX5_repeat_62 ?_
      refine g_iload1 dX5_repeat_64 ?_
      refine g_icmp_lt ⟨by omega, by omega⟩ ⟨by omega, by omega⟩ (tgt := 100) dX5_repeat_65 rfl (fun h65 => absurd h65 (by omega)) (fun h65 => ?_)
      refine g_aload0 dX5_repeat_68 ?_
      refine f_getr (r := 1) rfl (by decide) rfl rfl fl_X5_10 dX5_repeat_69 ?_
      refine f_getr (r := 4) rfl (by decide) rfl rfl fl_X5_242 dX5_repeat_72 ?_
      refine g_iload4 dX5_repeat_75 ?_
      refine g_iload3 dX5_repeat_77 ?_
      refine g_iadd dX5_repeat_78 ?_
      refine g_aload0 dX5_repeat_79 ?_
      refine f_getr (r := 1) rfl (by decide) rfl rfl fl_X5_10 dX5_repeat_80 ?_
      refine f_getr (r := 4) rfl (by decide) rfl rfl fl_X5_242 dX5_repeat_83 ?_
      refine g_iload4 dX5_repeat_86 ?_
      refine f_cS2w (atI rfl (by decide) (by omega) (by show _ < ((40 : Nat) : Int); omega)) oY_X5_at oT_X5_at lk_X5_164 rfl dX5_repeat_88 rfl (Or.inl rfl) ?_
      refine f_cS3d (putI rfl (by decide) (by omega) (by show _ < ((40 : Nat) : Int); omega)) oY_X5_put oT_X5_put lk_X5_283 rfl dX5_repeat_91 rfl (Or.inl rfl) ?_
      rw [shu_s (by omega) (by omega)]
      refine g_iinc4 dX5_repeat_94 rfl (by decide) ?_
      refine g_goto (tgt := 62) dX5_repeat_97 rfl ?_
      exact ih (by omega) _ (by omega)
  have h9 := loop (s 9 - a).toNat (by omega) (s 9 - 1) (by omega)
  rw [show a + ((s 9 - a).toNat : Int) = s 9 from by omega, shu_0, ← hm] at h9
  exact h9
theorem repeat_full {B : Int} {s : Int → Int} (ho : SOK B s) (hc : CSt σ 1 s) {a b : Int} (ha : 0 ≤ a) (hab : a ≤ b) (hb : b < s 9) (hf : ¬ s 9 + (b - a + 1) ≤ 40) : Fw g zX5_repeat [.ref 0, iv a, iv b] σ l (iv (-2)) := by
  have hn40 := ho.notes
  have hho := ho.holes
  have hpl := ho.place
  refine Fn.of [some (.ref 0), some (iv a), some (iv b), none, none] rfl (by decide) (Nat.le_of_ble_eq_true rfl) rfl ?_
  refine g_aload0 dX5_repeat_0 ?_
  refine g_iload1 dX5_repeat_1 ?_
  refine f_cV1d (needNote_ok ho hc ⟨by omega, by omega⟩ ⟨by omega, by omega⟩) rfl (by decide) rfl oY_X5_needNote oI_X5_needNote lk_X5_239 rfl dX5_repeat_2 rfl (Or.inl rfl) ?_
  refine g_aload0 dX5_repeat_5 ?_
  refine g_iload2 dX5_repeat_6 ?_
  refine f_cV1d (needNote_ok ho hc ⟨by omega, by omega⟩ ⟨by omega, by omega⟩) rfl (by decide) rfl oY_X5_needNote oI_X5_needNote lk_X5_239 rfl dX5_repeat_7 rfl (Or.inl rfl) ?_
  refine g_iload2 dX5_repeat_10 ?_
  refine g_iload1 dX5_repeat_11 ?_
  refine g_icmp_ge ⟨by omega, by omega⟩ ⟨by omega, by omega⟩ (tgt := 23) dX5_repeat_12 rfl (fun h12 => ?_) (fun h12 => absurd h12 (by omega))
  refine g_iload2 dX5_repeat_23 ?_
  refine g_iload1 dX5_repeat_24 ?_
  refine g_isub dX5_repeat_25 ?_
  refine g_iconst dX5_repeat_26 ?_
  refine g_iadd dX5_repeat_27 ?_
  refine g_istore3 dX5_repeat_28 rfl (by decide) ?_
  refine g_aload0 dX5_repeat_29 ?_
  refine f_getr (r := 1) rfl (by decide) rfl rfl fl_X5_10 dX5_repeat_30 ?_
  refine f_geti (J := 9) rfl (by decide) rfl rfl fl_X5_101 dX5_repeat_33 ?_
  rw [hc.f9]
  refine g_iload3 dX5_repeat_36 ?_
  refine g_iadd dX5_repeat_37 ?_
  refine g_bipush dX5_repeat_38 (by decide) ?_
  refine g_icmp_le ⟨by omega, by omega⟩ ⟨by decide, by decide⟩ (tgt := 46) dX5_repeat_40 rfl (fun h40 => absurd h40 (by omega)) (fun h40 => ?_)
  refine g_bipush dX5_repeat_43 (by decide) ?_
  refine g_iretI rfl dX5_repeat_45 ?_
  exact Fw.ret rfl
theorem repeat_bad2 {B : Int} {s : Int → Int} (ho : SOK B s) (hc : CSt σ 1 s) {a b : Int} (ha : 0 ≤ a ∧ a < s 9) (hb : 0 ≤ b ∧ b < s 9) (hf : ¬ a ≤ b) : Ft g zX5_repeat [.ref 0, iv a, iv b] σ l 0 := by
  have hn40 := ho.notes
  have hho := ho.holes
  have hpl := ho.place
  refine Fn.of [some (.ref 0), some (iv a), some (iv b), none, none] rfl (by decide) (Nat.le_of_ble_eq_true rfl) rfl ?_
  refine g_aload0 dX5_repeat_0 ?_
  refine g_iload1 dX5_repeat_1 ?_
  refine f_cV1d (needNote_ok ho hc ⟨by omega, by omega⟩ ⟨by omega, by omega⟩) rfl (by decide) rfl oY_X5_needNote oI_X5_needNote lk_X5_239 rfl dX5_repeat_2 rfl (Or.inl rfl) ?_
  refine g_aload0 dX5_repeat_5 ?_
  refine g_iload2 dX5_repeat_6 ?_
  refine f_cV1d (needNote_ok ho hc ⟨by omega, by omega⟩ ⟨by omega, by omega⟩) rfl (by decide) rfl oY_X5_needNote oI_X5_needNote lk_X5_239 rfl dX5_repeat_7 rfl (Or.inl rfl) ?_
  refine g_iload2 dX5_repeat_10 ?_
  refine g_iload1 dX5_repeat_11 ?_
  refine g_icmp_ge ⟨by omega, by omega⟩ ⟨by omega, by omega⟩ (tgt := 23) dX5_repeat_12 rfl (fun h12 => absurd h12 (by omega)) (fun h12 => ?_)
  refine g_throw okX_IAE5 rfl (by decide) dX5_repeat_15 dX5_repeat_18 dX5_repeat_19 dX5_repeat_22 (by omega) (by omega) ?_
  exact Ft.ret
theorem repeat_bad1 {B : Int} {s : Int → Int} (ho : SOK B s) (hc : CSt σ 1 s) {x y : Int} (hx : R32 x) (h : ¬ (0 ≤ x ∧ x < s 9)) : Ft g zX5_repeat [.ref 0, iv x, iv y] σ l 1 := by
  refine Fn.of [some (.ref 0), some (iv x), some (iv y), none, none] rfl (by decide) (Nat.le_of_ble_eq_true rfl) rfl ?_
  refine g_aload0 dX5_repeat_0 ?_
  refine g_iload1 dX5_repeat_1 ?_
  refine f_cV1t (needNote_bad ho hc hx h) rfl (by decide) rfl oY_X5_needNote oI_X5_needNote lk_X5_239 rfl dX5_repeat_2 (by omega) (by omega) rfl (Or.inl rfl) rfl ?_
  exact Ft.ret
theorem repeat_bad3 {B : Int} {s : Int → Int} (ho : SOK B s) (hc : CSt σ 1 s) {x y : Int} (hx : R32 x) (hy : R32 y) (h0 : 0 ≤ x ∧ x < s 9) (h : ¬ (0 ≤ y ∧ y < s 9)) : Ft g zX5_repeat [.ref 0, iv x, iv y] σ l 1 := by
  refine Fn.of [some (.ref 0), some (iv x), some (iv y), none, none] rfl (by decide) (Nat.le_of_ble_eq_true rfl) rfl ?_
  refine g_aload0 dX5_repeat_0 ?_
  refine g_iload1 dX5_repeat_1 ?_
  refine f_cV1d (needNote_ok ho hc hx h0) rfl (by decide) rfl oY_X5_needNote oI_X5_needNote lk_X5_239 rfl dX5_repeat_2 rfl (Or.inl rfl) ?_
  refine g_aload0 dX5_repeat_5 ?_
  refine g_iload2 dX5_repeat_6 ?_
  refine f_cV1t (needNote_bad ho hc hy h) rfl (by decide) rfl oY_X5_needNote oI_X5_needNote lk_X5_239 rfl dX5_repeat_7 (by omega) (by omega) rfl (Or.inl rfl) rfl ?_
  exact Ft.ret
/-- whether all notes stay tones -/
def hgB (s : Int → Int) (b : Int) : Nat → Bool
  | 0 => true
  | k + 1 => hgB s b k && (decide (wTu s k = -1) || decide (0 ≤ wTu s k + b ∧ wTu s k + b < 25))
theorem hgB_at {s : Int → Int} {b : Int} {k n : Nat} (hk : k < n) (h : hgB s b n = true) : wTu s k = -1 ∨ 0 ≤ wTu s k + b ∧ wTu s k + b < 25 := by
  induction n with
  | zero => omega
  | succ n ih =>
    unfold hgB at h
    rw [Bool.and_eq_true, Bool.or_eq_true, decide_eq_true_eq, decide_eq_true_eq] at h
    by_cases e : k = n
    · subst e; exact h.2
    · exact ih (by omega) h.1
theorem hgB_all {s : Int → Int} {b : Int} {n : Nat} (h : ∀ k : Nat, k < n → wTu s k = -1 ∨ 0 ≤ wTu s k + b ∧ wTu s k + b < 25) : hgB s b n = true := by
  induction n with
  | zero => rfl
  | succ n ih =>
    unfold hgB
    rw [Bool.and_eq_true, Bool.or_eq_true, decide_eq_true_eq, decide_eq_true_eq]
    exact ⟨ih (fun k hk => h k (by omega)), h n (by omega)⟩
def hgS (s : Int → Int) (b : Int) : Int → Int := fun j => if 27 ≤ j ∧ j < 27 + s 9 ∧ s j ≠ -1 then s j + b else s j
theorem hgS_e {s : Int → Int} {b : Int} (j : Nat) (hj : j < 27) : hgS s b j = s j := by unfold hgS; rw [if_neg (by omega)]
theorem hgS_9 {s : Int → Int} {b : Int} : hgS s b 9 = s 9 := hgS_e 9 (by decide)
theorem hgS_t {s : Int → Int} {b j : Int} (j0 : 0 ≤ j) (j1 : j < s 9) : wTu (hgS s b) j = if wTu s j = -1 then -1 else wTu s j + b := by
  unfold wTu hgS
  by_cases c : s (27 + (j.toNat : Int)) = -1
  · rw [if_pos c, if_neg (by omega), c]
  · rw [if_neg c, if_pos ⟨by omega, by omega, c⟩]
def shh (ρ : sT) (b q : Int) : sT := fun a j => if a = 4 ∧ 0 ≤ j ∧ j < q then (if ρ 4 j = -1 then -1 else ρ 4 j + b) else ρ a j
theorem shh_0 (ρ : sT) (b : Int) : shh ρ b 0 = ρ := by funext a j; unfold shh; rw [if_neg (by omega)]
theorem shh_n {ρ : sT} {b q : Int} {a : Nat} (h : a ≠ 4) : shh ρ b q a = ρ a := by funext j; unfold shh; rw [if_neg (fun z => h z.1)]
theorem shh_at {ρ : sT} {b q : Int} : shh ρ b q 4 q = ρ 4 q := by unfold shh; rw [if_neg (by omega)]
theorem shh_s {ρ : sT} {b q v : Int} (h : 0 ≤ q) (hv : v = if ρ 4 q = -1 then -1 else ρ 4 q + b) : up (shh ρ b q) 4 q v = shh ρ b (q + 1) := by
  subst hv
  funext a j
  unfold up shh
  by_cases c : a = 4 ∧ j = q
  · rw [if_pos c, if_pos (show a = 4 ∧ 0 ≤ j ∧ j < q + 1 from by omega), c.2]
  · rw [if_neg c]
    by_cases c2 : a = 4 ∧ 0 ≤ j ∧ j < q
    · rw [if_pos c2, if_pos (show a = 4 ∧ 0 ≤ j ∧ j < q + 1 from by omega)]
    · rw [if_neg c2, if_neg (show ¬ (a = 4 ∧ 0 ≤ j ∧ j < q + 1) from by omega)]
theorem higher_ok {B : Int} {s : Int → Int} {n : Nat} {P : Nat → Int → Int} (hI : Ic σ l B s n P) {b : Int} (hb : -12 ≤ b ∧ b ≤ 12) (hg : hgB s b (wN s) = true) : Fs g zX5_higher [.ref 0, iv b] σ l (iv (cntS (wTu (hgS s b)) (wN s))) B (hgS s b) (nP n) (pP n s P) := by
  have ho := hI.K.ok
  have hc := hI.K.st
  have hn40 := ho.n40
  have hho := ho.holes
  have hNI := ho.nI
  refine Fn.of [some (.ref 0), some (iv b), none, none] rfl (by decide) (Nat.le_of_ble_eq_true rfl) rfl ?_
  refine g_aload0 dX5_higher_0 ?_
  refine g_iload1 dX5_higher_1 ?_
  refine g_bipush dX5_higher_2 (by decide) ?_
  refine g_bipush dX5_higher_4 (by decide) ?_
  refine f_cV3d (needRange_ok ⟨by omega, by omega⟩ ⟨by decide, by decide⟩ ⟨by decide, by decide⟩ hb) rfl (by decide) rfl oY_X5_needRange oI_X5_needRange lk_X5_110 rfl dX5_higher_6 rfl (Or.inl rfl) ?_
  have after : ∀ (u2 u3 : Option Value), FW g zX5_higher 0 0 (fun o τ l' => o = .inl (some (iv (cntS (wTu (hgS s b)) (wN s)))) ∧ MF σ τ ∧ Ic τ l B (hgS s b) (nP n) (pP n s P) ∧ l' = l) 57 [some (.ref 0), some (iv b), u2, u3] [] σ l := by
    intro u2 u3
    refine g_aload0 dX5_higher_57 ?_
    refine g_iconst dX5_higher_58 ?_
    refine f_cV1d (rem_s (kp := 2) hI ⟨by decide, by decide⟩) rfl (by decide) rfl oY_X5_remember oI_X5_remember lk_X5_280 rfl dX5_higher_59 rfl (Or.inl rfl) ?_
    have hr := rem_c (kp := 2) hI
    obtain ⟨ρ, hρ⟩ : ∃ ρ, ρ = remS σ (σ 0 3).toNat 2 := ⟨_, rfl⟩
    rw [← hρ] at hr ⊢
    have loop2 : ∀ q, q ≤ wN s → ∀ (i : Int) (u3 : Option Value), i = (q : Int) → FW g zX5_higher 0 0 (fun o τ l' => o = .inl (some (iv (cntS (wTu (hgS s b)) (wN s)))) ∧ MF σ τ ∧ Ic τ l B (hgS s b) (nP n) (pP n s P) ∧ l' = l) 64 [some (.ref 0), some (iv b), some (iv i), u3] [] (shh ρ b (q : Int)) l := by
      refine loopUp _ (fun q hq2 ih i u3 hi => ?_)
      subst hi
      refine g_iload2 dX5_higher_64 ?_
      refine g_aload0 dX5_higher_65 ?_
      refine f_getr (r := 1) rfl (by decide) rfl rfl fl_X5_10 dX5_higher_66 ?_
      refine f_geti (J := 9) rfl (by decide) rfl rfl fl_X5_101 dX5_higher_69 ?_
      rw [shh_n (by decide), hr.f9, ho.nI]
      refine g_icmp_ge ⟨by omega, by omega⟩ ⟨by omega, by omega⟩ (tgt := 116) dX5_higher_72 rfl (fun h72 => ?_) (fun h72 => ?_)
      · have e9 : q = wN s := by omega
        subst e9
        have hTe : ∀ j : Int, 0 ≤ j → j < (wN s : Int) → shh ρ b (wN s : Int) 4 j = wTu (hgS s b) j := fun j j0 j1 => by
          rw [hgS_t j0 (by omega)]
          unfold shh
          rw [if_pos ⟨rfl, j0, j1⟩, show ρ 4 j = wTu s j from hr.tu j j0 (by omega)]
        have hT4 : ∀ j : Int, 0 ≤ j → j < (wN s : Int) → -1 ≤ shh ρ b (wN s : Int) 4 j ∧ shh ρ b (wN s : Int) 4 j ≤ 24 := fun j j0 j1 => by
          rw [hTe j j0 j1, hgS_t j0 (by omega)]
          have h1 := hgB_at (k := j.toNat) (by omega) hg
          rw [show ((j.toNat : Nat) : Int) = j from by omega] at h1
          split <;> omega
        refine g_aload0 dX5_higher_116 ?_
        refine f_getr (r := 1) rfl (by decide) rfl rfl fl_X5_10 dX5_higher_117 ?_
        refine f_cV0w (soundingNotes_ok isSt1 (by rw [shh_n (by decide), hr.f9, ho.nI]) ho.n40 (fun i a0 a1 => by have := hT4 i a0 a1; exact ⟨Int.le_trans (by decide) this.1, Int.le_trans this.2 (by decide)⟩)) rfl (by decide) rfl oY_X3_soundingNotes oI_X3_soundingNotes lk_X5_141 rfl dX5_higher_120 rfl (Or.inl rfl) ?_
        rw [show cntS (shh ρ b (wN s : Int) (1 + 3)) (wN s) = cntS (wTu (hgS s b)) (wN s) from cntS_congr _ (fun j hj => hTe j (by omega) (by omega))]
        refine g_iretI rfl dX5_higher_123 ?_
        refine Fs.rem hI ⟨by decide, by decide⟩ rfl (fun a ha => by rw [shh_n (by omega), hρ]) ?_ ?_ (Int.le_refl _) (Ag.tn hho.2 (fun k x _ _ => hgS_e k x))
        · exact hr.tn hho.2 (fun k x _ _ => hgS_e k x) (fun j _ _ => by rw [shh_n (by decide)]) (by rw [shh_n (by decide), hr.f9, hgS_9]) (by rw [shh_n (by decide), hr.f12]; exact (hgS_e 12 (by decide)).symm) (by rw [shh_n (by decide)]) (by rw [shh_n (by decide)]) (fun j k0 k1 => hTe j k0 (by rw [hgS_9] at k1; omega))
        · refine ho.tn (fun k x _ _ => hgS_e k x) (by rw [hgS_9]; exact ho.notes) (by rw [hgS_9, show hgS s b 12 = s 12 from hgS_e 12 (by decide)]; exact ho.place) (fun j k0 k1 => ?_)
          rw [hgS_9] at k1
          rw [← hTe j k0 (by omega)]
          exact hT4 j k0 (by omega)
      · refine g_aload0 dX5_higher_75 ?_
        refine f_getr (r := 1) rfl (by decide) rfl rfl fl_X5_10 dX5_higher_76 ?_
        refine f_getr (r := 4) rfl (by decide) rfl rfl fl_X5_242 dX5_higher_79 ?_
        refine g_iload2 dX5_higher_82 ?_
        refine f_cS2w (atI rfl (by decide) (by omega) (by show (q : Int) < (40 : Nat); omega)) oY_X5_at oT_X5_at lk_X5_164 rfl dX5_higher_83 rfl (Or.inl rfl) ?_
        rw [shh_at, hr.tu q (by omega) (by rw [ho.nI]; omega)]
        have ht := ho.tune q (by omega) (by rw [ho.nI]; omega)
        have er := hr.tu q (by omega) (by rw [ho.nI]; omega)
        refine g_istore3 dX5_higher_86 rfl (by decide) ?_
        refine g_aload0 dX5_higher_87 ?_
        refine f_getr (r := 1) rfl (by decide) rfl rfl fl_X5_10 dX5_higher_88 ?_
        refine f_getr (r := 4) rfl (by decide) rfl rfl fl_X5_242 dX5_higher_91 ?_
        refine g_iload2 dX5_higher_94 ?_
        refine g_iload3 dX5_higher_95 ?_
        refine g_iconst dX5_higher_96 ?_
        refine g_icmp_ne ⟨by omega, by omega⟩ ⟨by decide, by decide⟩ (tgt := 104) dX5_higher_97 rfl (fun h97 => ?_) (fun h97 => ?_)
        · refine g_iload3 dX5_higher_104 ?_
          refine g_iload1 dX5_higher_105 ?_
          refine g_iadd dX5_higher_106 ?_
          refine f_cS3d (putI rfl (by decide) (by omega) (by show (q : Int) < (40 : Nat); omega)) oY_X5_put oT_X5_put lk_X5_283 rfl dX5_higher_107 rfl (Or.inl rfl) ?_
          rw [shh_s (by omega) (by rw [show ρ 4 (q : Int) = wTu s q from er]; first | rw [if_pos h97] | rw [if_neg h97])]
          refine g_iinc2 dX5_higher_110 rfl (by decide) ?_
          refine g_goto (tgt := 64) dX5_higher_113 rfl ?_
          exact ih (by omega) _ _ (by push_cast; omega)
        · refine g_iconst dX5_higher_100 ?_
          refine g_goto (tgt := 107) dX5_higher_101 rfl ?_
          refine f_cS3d (putI rfl (by decide) (by omega) (by show (q : Int) < (40 : Nat); omega)) oY_X5_put oT_X5_put lk_X5_283 rfl dX5_higher_107 rfl (Or.inl rfl) ?_
          rw [shh_s (by omega) (by rw [show ρ 4 (q : Int) = wTu s q from er]; first | rw [if_pos h97] | rw [if_neg h97])]
          refine g_iinc2 dX5_higher_110 rfl (by decide) ?_
          refine g_goto (tgt := 64) dX5_higher_113 rfl ?_
          exact ih (by omega) _ _ (by push_cast; omega)
    refine g_iconst dX5_higher_62 ?_
    refine g_istore2 dX5_higher_63 rfl (by decide) ?_
    rw [← shh_0 ρ b]
    exact loop2 0 (Nat.zero_le _) _ _ rfl
  have loop : ∀ q, q ≤ wN s → ∀ (i : Int) (u3 : Option Value), i = (q : Int) → FW g zX5_higher 0 0 (fun o τ l' => o = .inl (some (iv (cntS (wTu (hgS s b)) (wN s)))) ∧ MF σ τ ∧ Ic τ l B (hgS s b) (nP n) (pP n s P) ∧ l' = l) 11 [some (.ref 0), some (iv b), some (iv i), u3] [] σ l := by
    refine loopUp _ (fun q hq2 ih i u3 hi => ?_)
    subst hi
    refine g_iload2 dX5_higher_11 ?_
    refine g_aload0 dX5_higher_12 ?_
    refine f_getr (r := 1) rfl (by decide) rfl rfl fl_X5_10 dX5_higher_13 ?_
    refine f_geti (J := 9) rfl (by decide) rfl rfl fl_X5_101 dX5_higher_16 ?_
    rw [hc.f9, ho.nI]
    refine g_icmp_ge ⟨by omega, by omega⟩ ⟨by omega, by omega⟩ (tgt := 57) dX5_higher_19 rfl (fun h19 => ?_) (fun h19 => ?_)
    · exact after _ _
    · refine g_aload0 dX5_higher_22 ?_
      refine f_getr (r := 1) rfl (by decide) rfl rfl fl_X5_10 dX5_higher_23 ?_
      refine f_getr (r := 4) rfl (by decide) rfl rfl fl_X5_242 dX5_higher_26 ?_
      refine g_iload2 dX5_higher_29 ?_
      refine f_cS2w (atI rfl (by decide) (by omega) (by show (q : Int) < (40 : Nat); omega)) oY_X5_at oT_X5_at lk_X5_164 rfl dX5_higher_30 rfl (Or.inl rfl) ?_
      rw [hc.tu q (by omega) (by rw [ho.nI]; omega)]
      have ht := ho.tune q (by omega) (by rw [ho.nI]; omega)
      refine g_istore3 dX5_higher_33 rfl (by decide) ?_
      refine g_iload3 dX5_higher_34 ?_
      refine g_iconst dX5_higher_35 ?_
      refine g_icmp_eq ⟨by omega, by omega⟩ ⟨by decide, by decide⟩ (tgt := 51) dX5_higher_36 rfl (fun h36 => ?_) (fun h36 => ?_)
      · refine g_iinc2 dX5_higher_51 rfl (by decide) ?_
        refine g_goto (tgt := 11) dX5_higher_54 rfl ?_
        exact ih (by omega) _ _ (by push_cast; omega)
      · refine g_iload3 dX5_higher_39 ?_
        refine g_iload1 dX5_higher_40 ?_
        refine g_iadd dX5_higher_41 ?_
        refine f_cS1w (isTone_ok ⟨by omega, by omega⟩) oY_X5_isTone oT_X5_isTone lk_X5_290 rfl dX5_higher_42 rfl (Or.inl rfl) ?_
        refine g_ifneB (tgt := 51) dX5_higher_45 rfl (fun h45 => ?_) (fun h45 => ?_)
        · refine g_iinc2 dX5_higher_51 rfl (by decide) ?_
          refine g_goto (tgt := 11) dX5_higher_54 rfl ?_
          exact ih (by omega) _ _ (by push_cast; omega)
        · refine g_bipush dX5_higher_48 (by decide) ?_
          refine g_iretI rfl dX5_higher_50 ?_
          exact absurd (hgB_at (k := q) (by omega) hg) (fun z => by omega)
  refine g_iconst dX5_higher_9 ?_
  refine g_istore2 dX5_higher_10 rfl (by decide) ?_
  exact loop 0 (Nat.zero_le _) _ _ rfl
theorem higher_no {B : Int} {s : Int → Int} (ho : SOK B s) (hc : CSt σ 1 s) {b : Int} (hb : -12 ≤ b ∧ b ≤ 12) (hg : hgB s b (wN s) ≠ true) : Fw g zX5_higher [.ref 0, iv b] σ l (iv (-3)) := by
  have hn40 := ho.n40
  refine Fn.of [some (.ref 0), some (iv b), none, none] rfl (by decide) (Nat.le_of_ble_eq_true rfl) rfl ?_
  refine g_aload0 dX5_higher_0 ?_
  refine g_iload1 dX5_higher_1 ?_
  refine g_bipush dX5_higher_2 (by decide) ?_
  refine g_bipush dX5_higher_4 (by decide) ?_
  refine f_cV3d (needRange_ok ⟨by omega, by omega⟩ ⟨by decide, by decide⟩ ⟨by decide, by decide⟩ hb) rfl (by decide) rfl oY_X5_needRange oI_X5_needRange lk_X5_110 rfl dX5_higher_6 rfl (Or.inl rfl) ?_
  have loop : ∀ q, q ≤ wN s → ∀ (i : Int) (u3 : Option Value), i = (q : Int) → (∀ k : Nat, k < q → wTu s k = -1 ∨ 0 ≤ wTu s k + b ∧ wTu s k + b < 25) → FW g zX5_higher 0 0 (fun q σ' l' => q = .inl (some (iv (-3))) ∧ σ' = σ ∧ l' = l) 11 [some (.ref 0), some (iv b), some (iv i), u3] [] σ l := by
    refine loopUp _ (fun q hq2 ih i u3 hi hall => ?_)
    subst hi
    refine g_iload2 dX5_higher_11 ?_
    refine g_aload0 dX5_higher_12 ?_
    refine f_getr (r := 1) rfl (by decide) rfl rfl fl_X5_10 dX5_higher_13 ?_
    refine f_geti (J := 9) rfl (by decide) rfl rfl fl_X5_101 dX5_higher_16 ?_
    rw [hc.f9, ho.nI]
    refine g_icmp_ge ⟨by omega, by omega⟩ ⟨by omega, by omega⟩ (tgt := 57) dX5_higher_19 rfl (fun h19 => ?_) (fun h19 => ?_)
    · exact absurd (hgB_all (fun k hk => hall k (by omega))) hg
    · refine g_aload0 dX5_higher_22 ?_
      refine f_getr (r := 1) rfl (by decide) rfl rfl fl_X5_10 dX5_higher_23 ?_
      refine f_getr (r := 4) rfl (by decide) rfl rfl fl_X5_242 dX5_higher_26 ?_
      refine g_iload2 dX5_higher_29 ?_
      refine f_cS2w (atI rfl (by decide) (by omega) (by show (q : Int) < (40 : Nat); omega)) oY_X5_at oT_X5_at lk_X5_164 rfl dX5_higher_30 rfl (Or.inl rfl) ?_
      rw [hc.tu q (by omega) (by rw [ho.nI]; omega)]
      have ht := ho.tune q (by omega) (by rw [ho.nI]; omega)
      refine g_istore3 dX5_higher_33 rfl (by decide) ?_
      refine g_iload3 dX5_higher_34 ?_
      refine g_iconst dX5_higher_35 ?_
      refine g_icmp_eq ⟨by omega, by omega⟩ ⟨by decide, by decide⟩ (tgt := 51) dX5_higher_36 rfl (fun h36 => ?_) (fun h36 => ?_)
      · refine g_iinc2 dX5_higher_51 rfl (by decide) ?_
        refine g_goto (tgt := 11) dX5_higher_54 rfl ?_
        refine ih (by omega) _ _ (by push_cast; omega) (fun k hk => ?_)
        by_cases e : k = q
        · subst e
          first
            | exact Or.inl h36
            | exact Or.inr h45
        · exact hall k (by omega)
      · refine g_iload3 dX5_higher_39 ?_
        refine g_iload1 dX5_higher_40 ?_
        refine g_iadd dX5_higher_41 ?_
        refine f_cS1w (isTone_ok ⟨by omega, by omega⟩) oY_X5_isTone oT_X5_isTone lk_X5_290 rfl dX5_higher_42 rfl (Or.inl rfl) ?_
        refine g_ifneB (tgt := 51) dX5_higher_45 rfl (fun h45 => ?_) (fun h45 => ?_)
        · refine g_iinc2 dX5_higher_51 rfl (by decide) ?_
          refine g_goto (tgt := 11) dX5_higher_54 rfl ?_
          refine ih (by omega) _ _ (by push_cast; omega) (fun k hk => ?_)
          by_cases e : k = q
          · subst e
            first
              | exact Or.inl h36
              | exact Or.inr h45
          · exact hall k (by omega)
        · refine g_bipush dX5_higher_48 (by decide) ?_
          refine g_iretI rfl dX5_higher_50 ?_
          exact Fw.ret rfl
  refine g_iconst dX5_higher_9 ?_
  refine g_istore2 dX5_higher_10 rfl (by decide) ?_
  exact loop 0 (Nat.zero_le _) _ _ rfl (fun k hk => by omega)
theorem higher_bad {B : Int} {s : Int → Int} (ho : SOK B s) (hc : CSt σ 1 s) {b : Int} (hx : R32 b) (h : ¬ (-12 ≤ b ∧ b ≤ 12)) : Ft g zX5_higher [.ref 0, iv b] σ l 0 := by
  refine Fn.of [some (.ref 0), some (iv b), none, none] rfl (by decide) (Nat.le_of_ble_eq_true rfl) rfl ?_
  refine g_aload0 dX5_higher_0 ?_
  refine g_iload1 dX5_higher_1 ?_
  refine g_bipush dX5_higher_2 (by decide) ?_
  refine g_bipush dX5_higher_4 (by decide) ?_
  refine f_cV3t (needRange_bad hx ⟨by decide, by decide⟩ ⟨by decide, by decide⟩ h) rfl (by decide) rfl oY_X5_needRange oI_X5_needRange lk_X5_110 rfl dX5_higher_6 (by omega) (by omega) rfl (Or.inl rfl) rfl ?_
  exact Ft.ret
end C56
