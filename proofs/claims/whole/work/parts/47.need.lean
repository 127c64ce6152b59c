/-! Throwing contracts; HoleWhistle's need methods, stateAt, write, replaceAll, remember -/
section C47
variable {g : gT} {σ : sT} {l : Nat → Nat}
def Ft (g : gT) (y : yT) (as : List Value) (σ : sT) (l : Nat → Nat) (e : Nat) : Prop := Fn g y 1 6 as σ l (fun o σ' l' => o = .inr e ∧ σ' = σ ∧ l' = l)
theorem Ft.ret {e : Nat} : fΦ (fun o σ' l' => o = .inr e ∧ σ' = σ ∧ l' = l) (.inr e) (mem σ l) := ⟨σ, l, rfl, rfl, rfl, rfl⟩
theorem f_cV1t {y y2 : yT} {k n : Nat} {Φ : mO → mM → Prop} {pc : Nat} {L : List (Option Value)} {st : List Value} {idx b ci e : Nat} {a1 : Value} (hR : Ft g y2 (.ref b :: [a1]) σ l e) (hk : kd b = ci + 10) (hb : b < 110) (hci : (CL[ci]?).map (·.1) = some (yN y2).cls) (hy : okY y2 1) (hI : okI y2) (hlk : LK (yN y).cls idx (yN y2)) (hF : fitY y y2 = true) (hd : decode (yB y) pc = .ok (.invokevirtual idx, 3)) (hk2 : 1 ≤ k) (hn2 : 6 ≤ n) (hcat : Nat.ble ((st.map fun v => v.category).sum) 8 = true) (hok : okF y2 110 L st) (hH : yH y = [])
    (h : Φ (.inr e) (mem σ l)) : GW g y k n Φ pc L (a1 :: .ref b :: st) (mem σ l) :=
  f_cV1n hR hk hb hci hy hI hlk hF hd hk2 hn2 hcat hok (fun v σ' l' h => by cases h.1) (fun e9 σ' l' h9 => by
    obtain ⟨q1, q2, q3⟩ := h9
    cases q1
    subst q2
    subst q3
    exact ⟨hH, h⟩)
theorem f_cV2t {y y2 : yT} {k n : Nat} {Φ : mO → mM → Prop} {pc : Nat} {L : List (Option Value)} {st : List Value} {idx b ci e : Nat} {a1 a2 : Value} (hR : Ft g y2 (.ref b :: [a1, a2]) σ l e) (hk : kd b = ci + 10) (hb : b < 110) (hci : (CL[ci]?).map (·.1) = some (yN y2).cls) (hy : okY y2 2) (hI : okI y2) (hlk : LK (yN y).cls idx (yN y2)) (hF : fitY y y2 = true) (hd : decode (yB y) pc = .ok (.invokevirtual idx, 3)) (hk2 : 1 ≤ k) (hn2 : 6 ≤ n) (hcat : Nat.ble ((st.map fun v => v.category).sum) 8 = true) (hok : okF y2 110 L st) (hH : yH y = [])
    (h : Φ (.inr e) (mem σ l)) : GW g y k n Φ pc L (a2 :: a1 :: .ref b :: st) (mem σ l) :=
  f_cV2n hR hk hb hci hy hI hlk hF hd hk2 hn2 hcat hok (fun v σ' l' h => by cases h.1) (fun e9 σ' l' h9 => by
    obtain ⟨q1, q2, q3⟩ := h9
    cases q1
    subst q2
    subst q3
    exact ⟨hH, h⟩)
theorem f_cV3t {y y2 : yT} {k n : Nat} {Φ : mO → mM → Prop} {pc : Nat} {L : List (Option Value)} {st : List Value} {idx b ci e : Nat} {a1 a2 a3 : Value} (hR : Ft g y2 (.ref b :: [a1, a2, a3]) σ l e) (hk : kd b = ci + 10) (hb : b < 110) (hci : (CL[ci]?).map (·.1) = some (yN y2).cls) (hy : okY y2 3) (hI : okI y2) (hlk : LK (yN y).cls idx (yN y2)) (hF : fitY y y2 = true) (hd : decode (yB y) pc = .ok (.invokevirtual idx, 3)) (hk2 : 1 ≤ k) (hn2 : 6 ≤ n) (hcat : Nat.ble ((st.map fun v => v.category).sum) 8 = true) (hok : okF y2 110 L st) (hH : yH y = [])
    (h : Φ (.inr e) (mem σ l)) : GW g y k n Φ pc L (a3 :: a2 :: a1 :: .ref b :: st) (mem σ l) :=
  f_cV3n hR hk hb hci hy hI hlk hF hd hk2 hn2 hcat hok (fun v σ' l' h => by cases h.1) (fun e9 σ' l' h9 => by
    obtain ⟨q1, q2, q3⟩ := h9
    cases q1
    subst q2
    subst q3
    exact ⟨hH, h⟩)
theorem needRange_ok {x a b : Int} (hx : R32 x) (ha : R32 a) (hb : R32 b) (h : a ≤ x ∧ x ≤ b) : FO g zX5_needRange [.ref 0, iv x, iv a, iv b] σ l (σ) := by
  refine Fn.of [some (.ref 0), some (iv x), some (iv a), some (iv b)] rfl (by decide) (Nat.le_of_ble_eq_true rfl) rfl ?_
  refine g_iload1 dX5_needRange_0 ?_
  refine g_iload2 dX5_needRange_1 ?_
  refine g_icmp_lt ⟨by omega, by omega⟩ ⟨by omega, by omega⟩ (tgt := 10) dX5_needRange_2 rfl (fun h2 => absurd h2 (by omega)) (fun h2 => ?_)
  refine g_iload1 dX5_needRange_5 ?_
  refine g_iload3 dX5_needRange_6 ?_
  refine g_icmp_le ⟨by omega, by omega⟩ ⟨by omega, by omega⟩ (tgt := 18) dX5_needRange_7 rfl (fun h7 => ?_) (fun h7 => absurd h7 (by omega))
  refine g_return rfl dX5_needRange_18 ?_
  exact FO.ret rfl
theorem needRange_bad {x a b : Int} (hx : R32 x) (ha : R32 a) (hb : R32 b) (h : ¬ (a ≤ x ∧ x ≤ b)) : Ft g zX5_needRange [.ref 0, iv x, iv a, iv b] σ l 0 := by
  refine Fn.of [some (.ref 0), some (iv x), some (iv a), some (iv b)] rfl (by decide) (Nat.le_of_ble_eq_true rfl) rfl ?_
  refine g_iload1 dX5_needRange_0 ?_
  refine g_iload2 dX5_needRange_1 ?_
  refine g_icmp_lt ⟨by omega, by omega⟩ ⟨by omega, by omega⟩ (tgt := 10) dX5_needRange_2 rfl (fun h2 => ?_) (fun h2 => ?_)
  · refine g_throw okX_IAE5 rfl (by decide) dX5_needRange_10 dX5_needRange_13 dX5_needRange_14 dX5_needRange_17 (by omega) (by omega) ?_
    exact Ft.ret
  · refine g_iload1 dX5_needRange_5 ?_
    refine g_iload3 dX5_needRange_6 ?_
    refine g_icmp_le ⟨by omega, by omega⟩ ⟨by omega, by omega⟩ (tgt := 18) dX5_needRange_7 rfl (fun h7 => ?_) (fun h7 => ?_)
    · refine g_return rfl dX5_needRange_18 ?_
      exact absurd ⟨by omega, by omega⟩ h
    · refine g_throw okX_IAE5 rfl (by decide) dX5_needRange_10 dX5_needRange_13 dX5_needRange_14 dX5_needRange_17 (by omega) (by omega) ?_
      exact Ft.ret
theorem needIndex_ok {x c : Int} (hx : R32 x) (hc : R32 c) (h : 0 ≤ x ∧ x < c) : FO g zX5_needIndex [.ref 0, iv x, iv c] σ l (σ) := by
  refine Fn.of [some (.ref 0), some (iv x), some (iv c)] rfl (by decide) (Nat.le_of_ble_eq_true rfl) rfl ?_
  refine g_iload1 dX5_needIndex_0 ?_
  refine g_if_lt ⟨by omega, by omega⟩ (tgt := 9) dX5_needIndex_1 rfl (fun h1 => absurd h1 (by omega)) (fun h1 => ?_)
  refine g_iload1 dX5_needIndex_4 ?_
  refine g_iload2 dX5_needIndex_5 ?_
  refine g_icmp_lt ⟨by omega, by omega⟩ ⟨by omega, by omega⟩ (tgt := 17) dX5_needIndex_6 rfl (fun h6 => ?_) (fun h6 => absurd h6 (by omega))
  refine g_return rfl dX5_needIndex_17 ?_
  exact FO.ret rfl
theorem needIndex_bad {x c : Int} (hx : R32 x) (hc : R32 c) (h : ¬ (0 ≤ x ∧ x < c)) : Ft g zX5_needIndex [.ref 0, iv x, iv c] σ l 1 := by
  refine Fn.of [some (.ref 0), some (iv x), some (iv c)] rfl (by decide) (Nat.le_of_ble_eq_true rfl) rfl ?_
  refine g_iload1 dX5_needIndex_0 ?_
  refine g_if_lt ⟨by omega, by omega⟩ (tgt := 9) dX5_needIndex_1 rfl (fun h1 => ?_) (fun h1 => ?_)
  · refine g_throw okX_IOB5 rfl (by decide) dX5_needIndex_9 dX5_needIndex_12 dX5_needIndex_13 dX5_needIndex_16 (by omega) (by omega) ?_
    exact Ft.ret
  · refine g_iload1 dX5_needIndex_4 ?_
    refine g_iload2 dX5_needIndex_5 ?_
    refine g_icmp_lt ⟨by omega, by omega⟩ ⟨by omega, by omega⟩ (tgt := 17) dX5_needIndex_6 rfl (fun h6 => ?_) (fun h6 => ?_)
    · refine g_return rfl dX5_needIndex_17 ?_
      exact absurd ⟨by omega, by omega⟩ h
    · refine g_throw okX_IOB5 rfl (by decide) dX5_needIndex_9 dX5_needIndex_12 dX5_needIndex_13 dX5_needIndex_16 (by omega) (by omega) ?_
      exact Ft.ret
theorem needTone_ok {x : Int} (hx : R32 x) (h : 0 ≤ x ∧ x ≤ 24) : FO g zX5_needTone [.ref 0, iv x] σ l (σ) := by
  refine Fn.of [some (.ref 0), some (iv x)] rfl (by decide) (Nat.le_of_ble_eq_true rfl) rfl ?_
  refine g_aload0 dX5_needTone_0 ?_
  refine g_iload1 dX5_needTone_1 ?_
  refine g_iconst dX5_needTone_2 ?_
  refine g_bipush dX5_needTone_3 (by decide) ?_
  refine f_cV3d (needRange_ok hx ⟨by decide, by decide⟩ ⟨by decide, by decide⟩ h) rfl (by decide) rfl oY_X5_needRange oI_X5_needRange lk_X5_110 rfl dX5_needTone_5 rfl (Or.inl rfl) ?_
  refine g_return rfl dX5_needTone_8 ?_
  exact FO.ret rfl
theorem needTone_bad {x : Int} (hx : R32 x) (h : ¬ (0 ≤ x ∧ x ≤ 24)) : Ft g zX5_needTone [.ref 0, iv x] σ l 0 := by
  refine Fn.of [some (.ref 0), some (iv x)] rfl (by decide) (Nat.le_of_ble_eq_true rfl) rfl ?_
  refine g_aload0 dX5_needTone_0 ?_
  refine g_iload1 dX5_needTone_1 ?_
  refine g_iconst dX5_needTone_2 ?_
  refine g_bipush dX5_needTone_3 (by decide) ?_
  refine f_cV3t (needRange_bad hx ⟨by decide, by decide⟩ ⟨by decide, by decide⟩ h) rfl (by decide) rfl oY_X5_needRange oI_X5_needRange lk_X5_110 rfl dX5_needTone_5 (by omega) (by omega) rfl (Or.inl rfl) rfl ?_
  exact Ft.ret
theorem needLimits_ok {x y : Int} (hx : R32 x) (hy : R32 y) (h : (0 ≤ x ∧ x ≤ 2) ∧ 0 ≤ y ∧ y ≤ 3) : FO g zX5_needLimits [.ref 0, iv x, iv y] σ l (σ) := by
  refine Fn.of [some (.ref 0), some (iv x), some (iv y)] rfl (by decide) (Nat.le_of_ble_eq_true rfl) rfl ?_
  refine g_aload0 dX5_needLimits_0 ?_
  refine g_iload1 dX5_needLimits_1 ?_
  refine g_iconst dX5_needLimits_2 ?_
  refine g_iconst dX5_needLimits_3 ?_
  refine f_cV3d (needRange_ok hx ⟨by decide, by decide⟩ ⟨by decide, by decide⟩ h.1) rfl (by decide) rfl oY_X5_needRange oI_X5_needRange lk_X5_110 rfl dX5_needLimits_4 rfl (Or.inl rfl) ?_
  refine g_aload0 dX5_needLimits_7 ?_
  refine g_iload2 dX5_needLimits_8 ?_
  refine g_iconst dX5_needLimits_9 ?_
  refine g_iconst dX5_needLimits_10 ?_
  refine f_cV3d (needRange_ok hy ⟨by decide, by decide⟩ ⟨by decide, by decide⟩ h.2) rfl (by decide) rfl oY_X5_needRange oI_X5_needRange lk_X5_110 rfl dX5_needLimits_11 rfl (Or.inl rfl) ?_
  refine g_return rfl dX5_needLimits_14 ?_
  exact FO.ret rfl
theorem needLimits_bad {x y : Int} (hx : R32 x) (hy : R32 y) (h : ¬ ((0 ≤ x ∧ x ≤ 2) ∧ 0 ≤ y ∧ y ≤ 3)) : Ft g zX5_needLimits [.ref 0, iv x, iv y] σ l 0 := by
  refine Fn.of [some (.ref 0), some (iv x), some (iv y)] rfl (by decide) (Nat.le_of_ble_eq_true rfl) rfl ?_
  by_cases h1 : 0 ≤ x ∧ x ≤ 2
  · refine g_aload0 dX5_needLimits_0 ?_
    refine g_iload1 dX5_needLimits_1 ?_
    refine g_iconst dX5_needLimits_2 ?_
    refine g_iconst dX5_needLimits_3 ?_
    refine f_cV3d (needRange_ok hx ⟨by decide, by decide⟩ ⟨by decide, by decide⟩ h1) rfl (by decide) rfl oY_X5_needRange oI_X5_needRange lk_X5_110 rfl dX5_needLimits_4 rfl (Or.inl rfl) ?_
    refine g_aload0 dX5_needLimits_7 ?_
    refine g_iload2 dX5_needLimits_8 ?_
    refine g_iconst dX5_needLimits_9 ?_
    refine g_iconst dX5_needLimits_10 ?_
    refine f_cV3t (needRange_bad hy ⟨by decide, by decide⟩ ⟨by decide, by decide⟩ (fun z => h ⟨h1, z⟩)) rfl (by decide) rfl oY_X5_needRange oI_X5_needRange lk_X5_110 rfl dX5_needLimits_11 (by omega) (by omega) rfl (Or.inl rfl) rfl ?_
    exact Ft.ret
  · refine g_aload0 dX5_needLimits_0 ?_
    refine g_iload1 dX5_needLimits_1 ?_
    refine g_iconst dX5_needLimits_2 ?_
    refine g_iconst dX5_needLimits_3 ?_
    refine f_cV3t (needRange_bad hx ⟨by decide, by decide⟩ ⟨by decide, by decide⟩ h1) rfl (by decide) rfl oY_X5_needRange oI_X5_needRange lk_X5_110 rfl dX5_needLimits_4 (by omega) (by omega) rfl (Or.inl rfl) rfl ?_
    exact Ft.ret
theorem needHole_ok {B : Int} {s : Int → Int} (ho : SOK B s) (hc : CSt σ 1 s) {x : Int} (hx : R32 x) (h : 0 ≤ x ∧ x < s 3) : FO g zX5_needHole [.ref 0, iv x] σ l (σ) := by
  refine Fn.of [some (.ref 0), some (iv x)] rfl (by decide) (Nat.le_of_ble_eq_true rfl) rfl ?_
  refine g_aload0 dX5_needHole_0 ?_
  refine g_iload1 dX5_needHole_1 ?_
  refine g_aload0 dX5_needHole_2 ?_
  refine f_getr (r := 1) rfl (by decide) rfl rfl fl_X5_10 dX5_needHole_3 ?_
  refine f_geti (J := 8) rfl (by decide) rfl rfl fl_X5_123 dX5_needHole_6 ?_
  rw [hc.f8]
  refine f_cV2d (needIndex_ok hx ⟨by have := ho.holes; omega, by have := ho.holes; omega⟩ h) rfl (by decide) rfl oY_X5_needIndex oI_X5_needIndex lk_X5_322 rfl dX5_needHole_9 rfl (Or.inl rfl) ?_
  refine g_return rfl dX5_needHole_12 ?_
  exact FO.ret rfl
theorem needHole_bad {B : Int} {s : Int → Int} (ho : SOK B s) (hc : CSt σ 1 s) {x : Int} (hx : R32 x) (h : ¬ (0 ≤ x ∧ x < s 3)) : Ft g zX5_needHole [.ref 0, iv x] σ l 1 := by
  refine Fn.of [some (.ref 0), some (iv x)] rfl (by decide) (Nat.le_of_ble_eq_true rfl) rfl ?_
  refine g_aload0 dX5_needHole_0 ?_
  refine g_iload1 dX5_needHole_1 ?_
  refine g_aload0 dX5_needHole_2 ?_
  refine f_getr (r := 1) rfl (by decide) rfl rfl fl_X5_10 dX5_needHole_3 ?_
  refine f_geti (J := 8) rfl (by decide) rfl rfl fl_X5_123 dX5_needHole_6 ?_
  rw [hc.f8]
  refine f_cV2t (needIndex_bad hx ⟨by have := ho.holes; omega, by have := ho.holes; omega⟩ h) rfl (by decide) rfl oY_X5_needIndex oI_X5_needIndex lk_X5_322 rfl dX5_needHole_9 (by omega) (by omega) rfl (Or.inl rfl) rfl ?_
  exact Ft.ret
theorem needNote_ok {B : Int} {s : Int → Int} (ho : SOK B s) (hc : CSt σ 1 s) {x : Int} (hx : R32 x) (h : 0 ≤ x ∧ x < s 9) : FO g zX5_needNote [.ref 0, iv x] σ l (σ) := by
  refine Fn.of [some (.ref 0), some (iv x)] rfl (by decide) (Nat.le_of_ble_eq_true rfl) rfl ?_
  refine g_aload0 dX5_needNote_0 ?_
  refine g_iload1 dX5_needNote_1 ?_
  refine g_aload0 dX5_needNote_2 ?_
  refine f_getr (r := 1) rfl (by decide) rfl rfl fl_X5_10 dX5_needNote_3 ?_
  refine f_geti (J := 9) rfl (by decide) rfl rfl fl_X5_101 dX5_needNote_6 ?_
  rw [hc.f9]
  refine f_cV2d (needIndex_ok hx ⟨by have := ho.notes; omega, by have := ho.notes; omega⟩ h) rfl (by decide) rfl oY_X5_needIndex oI_X5_needIndex lk_X5_322 rfl dX5_needNote_9 rfl (Or.inl rfl) ?_
  refine g_return rfl dX5_needNote_12 ?_
  exact FO.ret rfl
theorem needNote_bad {B : Int} {s : Int → Int} (ho : SOK B s) (hc : CSt σ 1 s) {x : Int} (hx : R32 x) (h : ¬ (0 ≤ x ∧ x < s 9)) : Ft g zX5_needNote [.ref 0, iv x] σ l 1 := by
  refine Fn.of [some (.ref 0), some (iv x)] rfl (by decide) (Nat.le_of_ble_eq_true rfl) rfl ?_
  refine g_aload0 dX5_needNote_0 ?_
  refine g_iload1 dX5_needNote_1 ?_
  refine g_aload0 dX5_needNote_2 ?_
  refine f_getr (r := 1) rfl (by decide) rfl rfl fl_X5_10 dX5_needNote_3 ?_
  refine f_geti (J := 9) rfl (by decide) rfl rfl fl_X5_101 dX5_needNote_6 ?_
  rw [hc.f9]
  refine f_cV2t (needIndex_bad hx ⟨by have := ho.notes; omega, by have := ho.notes; omega⟩ h) rfl (by decide) rfl oY_X5_needIndex oI_X5_needIndex lk_X5_322 rfl dX5_needNote_9 (by omega) (by omega) rfl (Or.inl rfl) rfl ?_
  exact Ft.ret
theorem needPlay_ok {B : Int} {s : Int → Int} (ho : SOK B s) (hc : CSt σ 1 s) {x : Int} (hx : R32 x) (h : 0 ≤ x ∧ x < 2 * ((3 ^ wH s : Nat) : Int)) : FO g zX5_needPlay [.ref 0, iv x] σ l (σ) := by
  have hp := p3_le ho.h7
  have hp0 := p3_pos (wH s)
  refine Fn.of [some (.ref 0), some (iv x)] rfl (by decide) (Nat.le_of_ble_eq_true rfl) rfl ?_
  refine g_aload0 dX5_needPlay_0 ?_
  refine g_iload1 dX5_needPlay_1 ?_
  refine g_aload0 dX5_needPlay_2 ?_
  refine f_getr (r := 1) rfl (by decide) rfl rfl fl_X5_10 dX5_needPlay_3 ?_
  refine f_cV0w (playCount_ok isSt1 (by rw [hc.H ho]; have := ho.h7; exact ⟨by omega, by omega⟩)) rfl (by decide) rfl oY_X3_playCount oI_X3_playCount lk_X5_145 rfl dX5_needPlay_6 rfl (Or.inl rfl) ?_
  rw [hc.H ho, pw_nat (by have := ho.h7; omega)]
  refine f_cV2d (needIndex_ok hx ⟨by omega, by omega⟩ h) rfl (by decide) rfl oY_X5_needIndex oI_X5_needIndex lk_X5_322 rfl dX5_needPlay_9 rfl (Or.inl rfl) ?_
  refine g_return rfl dX5_needPlay_12 ?_
  exact FO.ret rfl
theorem needPlay_bad {B : Int} {s : Int → Int} (ho : SOK B s) (hc : CSt σ 1 s) {x : Int} (hx : R32 x) (h : ¬ (0 ≤ x ∧ x < 2 * ((3 ^ wH s : Nat) : Int))) : Ft g zX5_needPlay [.ref 0, iv x] σ l 1 := by
  have hp := p3_le ho.h7
  have hp0 := p3_pos (wH s)
  refine Fn.of [some (.ref 0), some (iv x)] rfl (by decide) (Nat.le_of_ble_eq_true rfl) rfl ?_
  refine g_aload0 dX5_needPlay_0 ?_
  refine g_iload1 dX5_needPlay_1 ?_
  refine g_aload0 dX5_needPlay_2 ?_
  refine f_getr (r := 1) rfl (by decide) rfl rfl fl_X5_10 dX5_needPlay_3 ?_
  refine f_cV0w (playCount_ok isSt1 (by rw [hc.H ho]; have := ho.h7; exact ⟨by omega, by omega⟩)) rfl (by decide) rfl oY_X3_playCount oI_X3_playCount lk_X5_145 rfl dX5_needPlay_6 rfl (Or.inl rfl) ?_
  rw [hc.H ho, pw_nat (by have := ho.h7; omega)]
  refine f_cV2t (needIndex_bad hx ⟨by omega, by omega⟩ h) rfl (by decide) rfl oY_X5_needIndex oI_X5_needIndex lk_X5_322 rfl dX5_needPlay_9 (by omega) (by omega) rfl (Or.inl rfl) rfl ?_
  exact Ft.ret
theorem isStP {i : Nat} (h : i < 8) : isSt (52 + 4 * i) := by
  have h1 : i = 0 ∨ i = 1 ∨ i = 2 ∨ i = 3 ∨ i = 4 ∨ i = 5 ∨ i = 6 ∨ i = 7 := by omega
  rcases h1 with rfl | rfl | rfl | rfl | rfl | rfl | rfl | rfl <;> exact ⟨rfl, by decide, rfl, rfl, rfl, fun _ => rfl, fun _ => rfl, fun _ => rfl, rfl⟩
theorem isStS {i : Nat} (h : i < 2) : isSt (84 + 4 * i) := by
  have h1 : i = 0 ∨ i = 1 := by omega
  rcases h1 with rfl | rfl <;> exact ⟨rfl, by decide, rfl, rfl, rfl, fun _ => rfl, fun _ => rfl, fun _ => rfl, rfl⟩
theorem isSt11 : isSt 11 := ⟨rfl, by decide, rfl, rfl, rfl, fun _ => rfl, fun _ => rfl, fun _ => rfl, rfl⟩
theorem stateAtP {i : Nat} (h : i < 8) : Fw g zX5_stateAt [.ref 5, iv (i : Int)] σ l (.ref (52 + 4 * i)) := by
  refine Fn.of [some (.ref 5), some (iv (i : Int))] rfl (by decide) (Nat.le_of_ble_eq_true rfl) rfl ?_
  have hln : ln l 5 = 8 := rfl
  refine g_iload1 dX5_stateAt_0 ?_
  refine g_if_lt ⟨by omega, by omega⟩ (tgt := 16) dX5_stateAt_1 rfl (fun h1 => absurd h1 (by omega)) (fun h1 => ?_)
  refine g_iload1 dX5_stateAt_4 ?_
  refine g_aload0 dX5_stateAt_5 ?_
  refine f_alen (by decide) (by decide) dX5_stateAt_6 ?_
  refine g_icmp_ge ⟨by omega, by omega⟩ ⟨by rw [hln]; decide, by rw [hln]; decide⟩ (tgt := 16) dX5_stateAt_7 rfl (fun h7 => absurd h7 (by rw [hln]; omega)) (fun h7 => ?_)
  refine g_aload0 dX5_stateAt_10 ?_
  refine g_iload1 dX5_stateAt_11 ?_
  refine f_aald rfl (by decide) (by rw [hln]; omega) dX5_stateAt_12 ?_
  rw [show qb 5 + 4 * ((i : Int)).toNat = 52 + 4 * i from by rw [Int.toNat_natCast]; rfl]
  refine g_goto (tgt := 17) dX5_stateAt_13 rfl ?_
  refine g_areturn rfl (Or.inl ⟨_, rfl⟩) (Or.inr ⟨_, rfl⟩) dX5_stateAt_17 ?_
  exact Fw.retV rfl
theorem stateAtS {i : Nat} (h : i < 2) : Fw g zX5_stateAt [.ref 7, iv (i : Int)] σ l (.ref (84 + 4 * i)) := by
  refine Fn.of [some (.ref 7), some (iv (i : Int))] rfl (by decide) (Nat.le_of_ble_eq_true rfl) rfl ?_
  have hln : ln l 7 = 2 := rfl
  refine g_iload1 dX5_stateAt_0 ?_
  refine g_if_lt ⟨by omega, by omega⟩ (tgt := 16) dX5_stateAt_1 rfl (fun h1 => absurd h1 (by omega)) (fun h1 => ?_)
  refine g_iload1 dX5_stateAt_4 ?_
  refine g_aload0 dX5_stateAt_5 ?_
  refine f_alen (by decide) (by decide) dX5_stateAt_6 ?_
  refine g_icmp_ge ⟨by omega, by omega⟩ ⟨by rw [hln]; decide, by rw [hln]; decide⟩ (tgt := 16) dX5_stateAt_7 rfl (fun h7 => absurd h7 (by rw [hln]; omega)) (fun h7 => ?_)
  refine g_aload0 dX5_stateAt_10 ?_
  refine g_iload1 dX5_stateAt_11 ?_
  refine f_aald rfl (by decide) (by rw [hln]; omega) dX5_stateAt_12 ?_
  rw [show qb 7 + 4 * ((i : Int)).toNat = 84 + 4 * i from by rw [Int.toNat_natCast]; rfl]
  refine g_goto (tgt := 17) dX5_stateAt_13 rfl ?_
  refine g_areturn rfl (Or.inl ⟨_, rfl⟩) (Or.inr ⟨_, rfl⟩) dX5_stateAt_17 ?_
  exact Fw.retV rfl
theorem write_ok {x c : Int} (hc : σ 0 9 = c) (h : 0 ≤ c ∧ c < 120) : FO g zX5_write [.ref 0, iv x] σ l (up (up σ 16 c x) 0 9 (c + 1)) := by
  refine Fn.of [some (.ref 0), some (iv x)] rfl (by decide) (Nat.le_of_ble_eq_true rfl) rfl ?_
  refine g_aload0 dX5_write_0 ?_
  refine f_getr (r := 16) rfl (by decide) rfl rfl fl_X5_44 dX5_write_1 ?_
  refine g_aload0 dX5_write_4 ?_
  refine f_geti (J := 9) rfl (by decide) rfl rfl fl_X5_47 dX5_write_5 ?_
  rw [hc]
  refine g_iload1 dX5_write_8 ?_
  refine f_cS3d (putI rfl (by decide) h.1 (by show c < (120 : Nat); omega)) oY_X5_put oT_X5_put lk_X5_283 rfl dX5_write_9 rfl (Or.inl rfl) ?_
  refine g_aload0 dX5_write_12 ?_
  refine g_dup rfl dX5_write_13 ?_
  refine f_geti (J := 9) rfl (by decide) rfl rfl fl_X5_47 dX5_write_14 ?_
  rw [up_n (by omega), hc]
  refine g_iconst dX5_write_17 ?_
  refine g_iadd dX5_write_18 ?_
  refine f_puti (J := 9) rfl (by decide) rfl rfl fl_X5_47 rfl (fun _ _ _ h => by cases h; rfl) dX5_write_19 ?_
  refine g_return rfl dX5_write_22 ?_
  exact FO.ret rfl
/-- the state taken from p; nothing to undo, nothing fresh -/
def rplS (σ : sT) (p : Nat) : sT := up (up (cpSt σ p 1) 0 4 0) 0 15 0
theorem replaceAll_ok {p H N : Nat} (hp : isSt p) (hd : sDis p 1) (hH : σ p 8 = (H : Int)) (hN : σ p 9 = (N : Int)) (hH7 : H ≤ 7) (hN40 : N ≤ 40) : FO g zX5_replaceAll [.ref 0, .ref p] σ l (rplS σ p) := by
  refine Fn.of [some (.ref 0), some (.ref p)] rfl (by decide) (Nat.le_of_ble_eq_true rfl) rfl ?_
  refine g_aload0 dX5_replaceAll_0 ?_
  refine f_getr (r := 1) rfl (by decide) rfl rfl fl_X5_10 dX5_replaceAll_1 ?_
  refine g_aload1 dX5_replaceAll_4 ?_
  refine f_cV1d (copyFrom_ok isSt1 hp hd hH hN hH7 hN40) rfl (by decide) rfl oY_X3_copyFrom oI_X3_copyFrom lk_X5_313 rfl dX5_replaceAll_5 rfl (Or.inr ⟨⟨(show okV 110 (.ref 0) from okVb_of rfl), ⟨Or.inl hp.a, hp.2.2.2.2.2.2.2.2⟩, trivial⟩, trivial⟩) ?_
  refine g_aload0 dX5_replaceAll_8 ?_
  refine g_iconst dX5_replaceAll_9 ?_
  refine f_puti (J := 4) rfl (by decide) rfl rfl fl_X5_28 rfl (fun _ _ _ h => by cases h; rfl) dX5_replaceAll_10 ?_
  refine g_aload0 dX5_replaceAll_13 ?_
  refine g_iconst dX5_replaceAll_14 ?_
  refine f_puti (J := 15) rfl (by decide) rfl rfl fl_X5_77 rfl (fun _ _ _ h => by cases h; rfl) dX5_replaceAll_15 ?_
  refine g_return rfl dX5_replaceAll_18 ?_
  exact FO.ret rfl
/-- the state kept as the newest, with what of the reckoned stays -/
def remS (σ : sT) (i : Nat) (kp : Int) : sT := up (up (up (up (cpSt σ 1 (52 + 4 * i)) 6 i kp) 0 3 (((i : Int) + 1) % 8)) 0 4 (min (σ 0 4 + 1) 8)) 0 15 (min (σ 0 15) kp)
theorem cpSt_n {p o a : Nat} (h : a < o ∨ o + 3 < a) : cpSt σ p o a = σ a := by
  funext b
  unfold cpSt
  rw [if_neg (by omega), if_neg (by omega), if_neg (by omega), if_neg (by omega)]
theorem remember_ok {i H N : Nat} {kp : Int} (hi : i < 8) (h3 : σ 0 3 = (i : Int)) (h4 : 0 ≤ σ 0 4 ∧ σ 0 4 ≤ 8) (hf : R32 (σ 0 15)) (hk : R32 kp) (hH : σ 1 8 = (H : Int)) (hN : σ 1 9 = (N : Int)) (hH7 : H ≤ 7) (hN40 : N ≤ 40) : FO g zX5_remember [.ref 0, iv kp] σ l (remS σ i kp) := by
  have hs := isStP hi
  have c0 : ∀ a, a < 52 → cpSt σ 1 (52 + 4 * i) a = σ a := fun a ha => cpSt_n (Or.inl (by omega))
  refine Fn.of [some (.ref 0), some (iv kp), none] rfl (by decide) (Nat.le_of_ble_eq_true rfl) rfl ?_
  refine g_aload0 dX5_remember_0 ?_
  refine f_getr (r := 5) rfl (by decide) rfl rfl fl_X5_16 dX5_remember_1 ?_
  refine g_aload0 dX5_remember_4 ?_
  refine f_geti (J := 3) rfl (by decide) rfl rfl fl_X5_24 dX5_remember_5 ?_
  rw [h3]
  refine f_cS2w (stateAtP hi) oY_X5_stateAt oT_X5_stateAt lk_X5_309 rfl dX5_remember_8 rfl (okFb_of rfl) ?_
  refine g_astore2 dX5_remember_11 rfl (by decide) ?_
  refine g_aload2 dX5_remember_12 ?_
  refine g_ifnull dX5_remember_13 ?_
  refine g_aload2 dX5_remember_16 ?_
  refine g_aload0 dX5_remember_17 ?_
  refine f_getr (r := 1) rfl (by decide) rfl rfl fl_X5_10 dX5_remember_18 ?_
  refine f_cV1d (copyFrom_ok hs isSt1 (by unfold sDis; omega) hH hN hH7 hN40) hs.1 hs.a rfl oY_X3_copyFrom oI_X3_copyFrom lk_X5_313 rfl dX5_remember_21 rfl (Or.inr ⟨⟨(show okV 110 (.ref 0) from okVb_of rfl), trivial, ⟨Or.inl hs.a, hs.2.2.2.2.2.2.2.2⟩, trivial⟩, trivial⟩) ?_
  refine g_aload0 dX5_remember_24 ?_
  refine f_getr (r := 6) rfl (by decide) rfl rfl fl_X5_20 dX5_remember_25 ?_
  refine g_aload0 dX5_remember_28 ?_
  refine f_geti (J := 3) rfl (by decide) rfl rfl fl_X5_24 dX5_remember_29 ?_
  rw [c0 0 (by decide), h3]
  refine g_iload1 dX5_remember_32 ?_
  refine f_cS3d (putI rfl (by decide) (by omega) (by show (i : Int) < (8 : Nat); omega)) oY_X5_put oT_X5_put lk_X5_283 rfl dX5_remember_33 rfl (Or.inr ⟨⟨(show okV 110 (.ref 0) from okVb_of rfl), trivial, ⟨Or.inl hs.a, hs.2.2.2.2.2.2.2.2⟩, trivial⟩, trivial⟩) ?_
  refine g_aload0 dX5_remember_36 ?_
  refine g_aload0 dX5_remember_37 ?_
  refine f_geti (J := 3) rfl (by decide) rfl rfl fl_X5_24 dX5_remember_38 ?_
  rw [up_n (by omega), c0 0 (by decide), h3]
  refine g_iconst dX5_remember_41 ?_
  refine g_iadd dX5_remember_42 ?_
  refine g_bipush dX5_remember_43 (by decide) ?_
  refine g_irem ⟨by omega, by omega⟩ ⟨by omega, by omega⟩ dX5_remember_45 ?_
  refine f_puti (J := 3) rfl (by decide) rfl rfl fl_X5_24 rfl (fun _ _ _ h => by cases h; rfl) dX5_remember_46 ?_
  refine g_aload0 dX5_remember_49 ?_
  refine g_aload0 dX5_remember_50 ?_
  refine f_geti (J := 4) rfl (by decide) rfl rfl fl_X5_28 dX5_remember_51 ?_
  rw [up_ne (by omega), up_n (by omega), c0 0 (by decide)]
  refine g_iconst dX5_remember_54 ?_
  refine g_iadd dX5_remember_55 ?_
  refine g_bipush dX5_remember_56 (by decide) ?_
  refine g_mmin ⟨by omega, by omega⟩ ⟨by omega, by omega⟩ ma_X5_316 ⟨by decide, Nat.le_of_ble_eq_true rfl⟩ dX5_remember_58 ?_
  refine f_puti (J := 4) rfl (by decide) rfl rfl fl_X5_28 rfl (fun _ _ _ h => by cases h; rfl) dX5_remember_61 ?_
  refine g_aload0 dX5_remember_64 ?_
  refine g_aload0 dX5_remember_65 ?_
  refine f_geti (J := 15) rfl (by decide) rfl rfl fl_X5_77 dX5_remember_66 ?_
  rw [up_ne (by omega), up_ne (by omega), up_n (by omega), c0 0 (by decide)]
  refine g_iload1 dX5_remember_69 ?_
  refine g_mmin hf hk ma_X5_316 ⟨by decide, Nat.le_of_ble_eq_true rfl⟩ dX5_remember_70 ?_
  refine f_puti (J := 15) rfl (by decide) rfl rfl fl_X5_77 rfl (fun _ _ _ h => by cases h; rfl) dX5_remember_73 ?_
  refine g_return rfl dX5_remember_76 ?_
  exact FO.ret rfl
end C47
