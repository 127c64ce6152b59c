/-! HoleWhistle's questions, more -/
section C49
variable {g : gT} {σ : sT} {l : Nat → Nat}
theorem f_cV0q {y y2 : yT} {k n : Nat} {Φ : mO → mM → Prop} {pc : Nat} {L : List (Option Value)} {st : List Value} {idx k2 n2 b ci : Nat} {V : Value} {R : sT → (Nat → Nat) → Prop} (hR : Fn g y2 k2 n2 (.ref b :: []) σ l (fun o τ l' => o = .inl (some V) ∧ R τ l')) (hk : kd b = ci + 10) (hb : b < 110) (hci : (CL[ci]?).map (·.1) = some (yN y2).cls) (hy : okY y2 0) (hI : okI y2) (hlk : LK (yN y).cls idx (yN y2)) (hF : fitY y y2 = true) (hd : decode (yB y) pc = .ok (.invokevirtual idx, 3)) (hk2 : k2 ≤ k) (hn2 : n2 ≤ n) (hcat : Nat.ble ((st.map fun v => v.category).sum) 8 = true) (hok : okF y2 110 L st)
    (kr : ∀ σ' l', R σ' l' → GW g y (k - k2) (n - n2) Φ (pc + 3) L (V :: st) (mem σ' l')) : GW g y k n Φ pc L (.ref b :: st) (mem σ l) :=
  f_cV0n hR hk hb hci hy hI hlk hF hd hk2 hn2 hcat hok (fun v σ' l' ⟨e, h⟩ => by cases e; exact kr σ' l' h) (fun e9 σ' l' ⟨e, h⟩ => by cases e)
theorem f_cV1q {y y2 : yT} {k n : Nat} {Φ : mO → mM → Prop} {pc : Nat} {L : List (Option Value)} {st : List Value} {idx k2 n2 b ci : Nat} {a1 : Value} {V : Value} {R : sT → (Nat → Nat) → Prop} (hR : Fn g y2 k2 n2 (.ref b :: [a1]) σ l (fun o τ l' => o = .inl (some V) ∧ R τ l')) (hk : kd b = ci + 10) (hb : b < 110) (hci : (CL[ci]?).map (·.1) = some (yN y2).cls) (hy : okY y2 1) (hI : okI y2) (hlk : LK (yN y).cls idx (yN y2)) (hF : fitY y y2 = true) (hd : decode (yB y) pc = .ok (.invokevirtual idx, 3)) (hk2 : k2 ≤ k) (hn2 : n2 ≤ n) (hcat : Nat.ble ((st.map fun v => v.category).sum) 8 = true) (hok : okF y2 110 L st)
    (kr : ∀ σ' l', R σ' l' → GW g y (k - k2) (n - n2) Φ (pc + 3) L (V :: st) (mem σ' l')) : GW g y k n Φ pc L (a1 :: .ref b :: st) (mem σ l) :=
  f_cV1n hR hk hb hci hy hI hlk hF hd hk2 hn2 hcat hok (fun v σ' l' ⟨e, h⟩ => by cases e; exact kr σ' l' h) (fun e9 σ' l' ⟨e, h⟩ => by cases e)
theorem f_cV2q {y y2 : yT} {k n : Nat} {Φ : mO → mM → Prop} {pc : Nat} {L : List (Option Value)} {st : List Value} {idx k2 n2 b ci : Nat} {a1 a2 : Value} {V : Value} {R : sT → (Nat → Nat) → Prop} (hR : Fn g y2 k2 n2 (.ref b :: [a1, a2]) σ l (fun o τ l' => o = .inl (some V) ∧ R τ l')) (hk : kd b = ci + 10) (hb : b < 110) (hci : (CL[ci]?).map (·.1) = some (yN y2).cls) (hy : okY y2 2) (hI : okI y2) (hlk : LK (yN y).cls idx (yN y2)) (hF : fitY y y2 = true) (hd : decode (yB y) pc = .ok (.invokevirtual idx, 3)) (hk2 : k2 ≤ k) (hn2 : n2 ≤ n) (hcat : Nat.ble ((st.map fun v => v.category).sum) 8 = true) (hok : okF y2 110 L st)
    (kr : ∀ σ' l', R σ' l' → GW g y (k - k2) (n - n2) Φ (pc + 3) L (V :: st) (mem σ' l')) : GW g y k n Φ pc L (a2 :: a1 :: .ref b :: st) (mem σ l) :=
  f_cV2n hR hk hb hci hy hI hlk hF hd hk2 hn2 hcat hok (fun v σ' l' ⟨e, h⟩ => by cases e; exact kr σ' l' h) (fun e9 σ' l' ⟨e, h⟩ => by cases e)
theorem f_cV3q {y y2 : yT} {k n : Nat} {Φ : mO → mM → Prop} {pc : Nat} {L : List (Option Value)} {st : List Value} {idx k2 n2 b ci : Nat} {a1 a2 a3 : Value} {V : Value} {R : sT → (Nat → Nat) → Prop} (hR : Fn g y2 k2 n2 (.ref b :: [a1, a2, a3]) σ l (fun o τ l' => o = .inl (some V) ∧ R τ l')) (hk : kd b = ci + 10) (hb : b < 110) (hci : (CL[ci]?).map (·.1) = some (yN y2).cls) (hy : okY y2 3) (hI : okI y2) (hlk : LK (yN y).cls idx (yN y2)) (hF : fitY y y2 = true) (hd : decode (yB y) pc = .ok (.invokevirtual idx, 3)) (hk2 : k2 ≤ k) (hn2 : n2 ≤ n) (hcat : Nat.ble ((st.map fun v => v.category).sum) 8 = true) (hok : okF y2 110 L st)
    (kr : ∀ σ' l', R σ' l' → GW g y (k - k2) (n - n2) Φ (pc + 3) L (V :: st) (mem σ' l')) : GW g y k n Φ pc L (a3 :: a2 :: a1 :: .ref b :: st) (mem σ l) :=
  f_cV3n hR hk hb hci hy hI hlk hF hd hk2 hn2 hcat hok (fun v σ' l' ⟨e, h⟩ => by cases e; exact kr σ' l' h) (fun e9 σ' l' ⟨e, h⟩ => by cases e)
theorem hole_ok {B : Int} {s : Int → Int} (hK : Kc σ l B s) {x w : Int} (hx : R32 x) (hw : R32 w) (h : 0 ≤ x ∧ x < s 3) (h2 : 0 ≤ w ∧ w ≤ 2) : Fw g zX5_hole [.ref 0, iv x, iv w] σ l (iv (if w = 0 then wPl s x else if w = 1 then wSz s x else covC (s 10) x)) := by
  have ho := hK.ok
  have hc := hK.st
  have hH := ho.holes
  have hp := p3_le ho.h7
  refine Fn.of [some (.ref 0), some (iv x), some (iv w)] rfl (by decide) (Nat.le_of_ble_eq_true rfl) rfl ?_
  refine g_aload0 dX5_hole_0 ?_
  refine g_iload1 dX5_hole_1 ?_
  refine f_cV1d (needHole_ok ho hc hx h) rfl (by decide) rfl oY_X5_needHole oI_X5_needHole lk_X5_157 rfl dX5_hole_2 rfl (Or.inl rfl) ?_
  refine g_aload0 dX5_hole_5 ?_
  refine g_iload2 dX5_hole_6 ?_
  refine g_iconst dX5_hole_7 ?_
  refine g_iconst dX5_hole_8 ?_
  refine f_cV3d (needRange_ok hw ⟨by decide, by decide⟩ ⟨by decide, by decide⟩ h2) rfl (by decide) rfl oY_X5_needRange oI_X5_needRange lk_X5_110 rfl dX5_hole_9 rfl (Or.inl rfl) ?_
  refine g_iload2 dX5_hole_12 ?_
  refine g_if_ne hw (tgt := 28) dX5_hole_13 rfl (fun h13 => ?_) (fun h13 => ?_)
  · refine g_iload2 dX5_hole_28 ?_
    refine g_iconst dX5_hole_29 ?_
    refine g_icmp_ne hw ⟨by decide, by decide⟩ (tgt := 47) dX5_hole_30 rfl (fun h30 => ?_) (fun h30 => ?_)
    · refine g_aload0 dX5_hole_47 ?_
      refine f_getr (r := 1) rfl (by decide) rfl rfl fl_X5_10 dX5_hole_48 ?_
      refine f_geti (J := 10) rfl (by decide) rfl rfl fl_X5_148 dX5_hole_51 ?_
      rw [hc.f10]
      refine g_iload1 dX5_hole_54 ?_
      refine f_cS2w (coverOf_ok (by have := ho.play; omega) hx) oY_X5_coverOf oT_X5_coverOf lk_X5_171 rfl dX5_hole_55 rfl (Or.inl rfl) ?_
      refine g_iretI rfl dX5_hole_58 ?_
      first
        | exact Fw.ret (by rw [if_neg h13, if_neg h30])
        | exact Fw.ret (by rw [if_neg h13, if_pos h30])
    · refine g_aload0 dX5_hole_33 ?_
      refine f_getr (r := 1) rfl (by decide) rfl rfl fl_X5_10 dX5_hole_34 ?_
      refine f_getr (r := 3) rfl (by decide) rfl rfl fl_X5_168 dX5_hole_37 ?_
      refine g_iload1 dX5_hole_40 ?_
      refine f_cS2w (atI rfl (by decide) h.1 (by show x < (7 : Nat); omega)) oY_X5_at oT_X5_at lk_X5_164 rfl dX5_hole_41 rfl (Or.inl rfl) ?_
      rw [show σ 3 x = wSz s x from hc.sz x h.1 h.2]
      refine g_goto (tgt := 58) dX5_hole_44 rfl ?_
      refine g_iretI rfl dX5_hole_58 ?_
      first
        | exact Fw.ret (by rw [if_neg h13, if_neg h30])
        | exact Fw.ret (by rw [if_neg h13, if_pos h30])
  · refine g_aload0 dX5_hole_16 ?_
    refine f_getr (r := 1) rfl (by decide) rfl rfl fl_X5_10 dX5_hole_17 ?_
    refine f_getr (r := 2) rfl (by decide) rfl rfl fl_X5_161 dX5_hole_20 ?_
    refine g_iload1 dX5_hole_23 ?_
    refine f_cS2w (atI rfl (by decide) h.1 (by show x < (7 : Nat); omega)) oY_X5_at oT_X5_at lk_X5_164 rfl dX5_hole_24 rfl (Or.inl rfl) ?_
    rw [show σ 2 x = wPl s x from hc.pl x h.1 h.2]
    refine g_iretI rfl dX5_hole_27 ?_
    exact Fw.ret (by rw [if_pos h13])
theorem hole_bad1 {B : Int} {s : Int → Int} (ho : SOK B s) (hc : CSt σ 1 s) {x w : Int} (hx : R32 x) (h : ¬ (0 ≤ x ∧ x < s 3)) : Ft g zX5_hole [.ref 0, iv x, iv w] σ l 1 := by
  refine Fn.of [some (.ref 0), some (iv x), some (iv w)] rfl (by decide) (Nat.le_of_ble_eq_true rfl) rfl ?_
  refine g_aload0 dX5_hole_0 ?_
  refine g_iload1 dX5_hole_1 ?_
  refine f_cV1t (needHole_bad ho hc hx h) rfl (by decide) rfl oY_X5_needHole oI_X5_needHole lk_X5_157 rfl dX5_hole_2 (by omega) (by omega) rfl (Or.inl rfl) rfl ?_
  exact Ft.ret
theorem hole_bad2 {B : Int} {s : Int → Int} (ho : SOK B s) (hc : CSt σ 1 s) {x w : Int} (hx : R32 x) (hw : R32 w) (h : 0 ≤ x ∧ x < s 3) (h2 : ¬ (0 ≤ w ∧ w ≤ 2)) : Ft g zX5_hole [.ref 0, iv x, iv w] σ l 0 := by
  refine Fn.of [some (.ref 0), some (iv x), some (iv w)] rfl (by decide) (Nat.le_of_ble_eq_true rfl) rfl ?_
  refine g_aload0 dX5_hole_0 ?_
  refine g_iload1 dX5_hole_1 ?_
  refine f_cV1d (needHole_ok ho hc hx h) rfl (by decide) rfl oY_X5_needHole oI_X5_needHole lk_X5_157 rfl dX5_hole_2 rfl (Or.inl rfl) ?_
  refine g_aload0 dX5_hole_5 ?_
  refine g_iload2 dX5_hole_6 ?_
  refine g_iconst dX5_hole_7 ?_
  refine g_iconst dX5_hole_8 ?_
  refine f_cV3t (needRange_bad hw ⟨by decide, by decide⟩ ⟨by decide, by decide⟩ h2) rfl (by decide) rfl oY_X5_needRange oI_X5_needRange lk_X5_110 rfl dX5_hole_9 (by omega) (by omega) rfl (Or.inl rfl) rfl ?_
  exact Ft.ret
theorem covered_ok {B : Int} {s : Int → Int} (hK : Kc σ l B s) {p x : Int} (hx : R32 p) (hw : R32 x) (h : 0 ≤ p ∧ p < 2 * ((3 ^ wH s : Nat) : Int)) (h2 : 0 ≤ x ∧ x < s 3) : Fw g zX5_covered [.ref 0, iv p, iv x] σ l (iv (covC p x)) := by
  have ho := hK.ok
  have hc := hK.st
  refine Fn.of [some (.ref 0), some (iv p), some (iv x)] rfl (by decide) (Nat.le_of_ble_eq_true rfl) rfl ?_
  refine g_aload0 dX5_covered_0 ?_
  refine g_iload1 dX5_covered_1 ?_
  refine f_cV1d (needPlay_ok ho hc hx h) rfl (by decide) rfl oY_X5_needPlay oI_X5_needPlay lk_X5_175 rfl dX5_covered_2 rfl (Or.inl rfl) ?_
  refine g_aload0 dX5_covered_5 ?_
  refine g_iload2 dX5_covered_6 ?_
  refine f_cV1d (needHole_ok ho hc hw h2) rfl (by decide) rfl oY_X5_needHole oI_X5_needHole lk_X5_157 rfl dX5_covered_7 rfl (Or.inl rfl) ?_
  refine g_iload1 dX5_covered_10 ?_
  refine g_iload2 dX5_covered_11 ?_
  refine f_cS2w (coverOf_ok ⟨h.1, hx.2⟩ hw) oY_X5_coverOf oT_X5_coverOf lk_X5_171 rfl dX5_covered_12 rfl (Or.inl rfl) ?_
  refine g_iretI rfl dX5_covered_15 ?_
  exact Fw.ret rfl
theorem covered_bad1 {B : Int} {s : Int → Int} (ho : SOK B s) (hc : CSt σ 1 s) {p x : Int} (hx : R32 p) (h : ¬ (0 ≤ p ∧ p < 2 * ((3 ^ wH s : Nat) : Int))) : Ft g zX5_covered [.ref 0, iv p, iv x] σ l 1 := by
  refine Fn.of [some (.ref 0), some (iv p), some (iv x)] rfl (by decide) (Nat.le_of_ble_eq_true rfl) rfl ?_
  refine g_aload0 dX5_covered_0 ?_
  refine g_iload1 dX5_covered_1 ?_
  refine f_cV1t (needPlay_bad ho hc hx h) rfl (by decide) rfl oY_X5_needPlay oI_X5_needPlay lk_X5_175 rfl dX5_covered_2 (by omega) (by omega) rfl (Or.inl rfl) rfl ?_
  exact Ft.ret
theorem covered_bad2 {B : Int} {s : Int → Int} (ho : SOK B s) (hc : CSt σ 1 s) {p x : Int} (hx : R32 p) (hw : R32 x) (h : 0 ≤ p ∧ p < 2 * ((3 ^ wH s : Nat) : Int)) (h2 : ¬ (0 ≤ x ∧ x < s 3)) : Ft g zX5_covered [.ref 0, iv p, iv x] σ l 1 := by
  refine Fn.of [some (.ref 0), some (iv p), some (iv x)] rfl (by decide) (Nat.le_of_ble_eq_true rfl) rfl ?_
  refine g_aload0 dX5_covered_0 ?_
  refine g_iload1 dX5_covered_1 ?_
  refine f_cV1d (needPlay_ok ho hc hx h) rfl (by decide) rfl oY_X5_needPlay oI_X5_needPlay lk_X5_175 rfl dX5_covered_2 rfl (Or.inl rfl) ?_
  refine g_aload0 dX5_covered_5 ?_
  refine g_iload2 dX5_covered_6 ?_
  refine f_cV1t (needHole_bad ho hc hw h2) rfl (by decide) rfl oY_X5_needHole oI_X5_needHole lk_X5_157 rfl dX5_covered_7 (by omega) (by omega) rfl (Or.inl rfl) rfl ?_
  exact Ft.ret
theorem note_ok {B : Int} {s : Int → Int} (hK : Kc σ l B s) {x : Int} (hx : R32 x) (h : 0 ≤ x ∧ x < s 9) : Fw g zX5_note [.ref 0, iv x] σ l (iv (wTu s x)) := by
  have ho := hK.ok
  have hc := hK.st
  have hn := ho.notes
  refine Fn.of [some (.ref 0), some (iv x)] rfl (by decide) (Nat.le_of_ble_eq_true rfl) rfl ?_
  refine g_aload0 dX5_note_0 ?_
  refine g_iload1 dX5_note_1 ?_
  refine f_cV1d (needNote_ok ho hc hx h) rfl (by decide) rfl oY_X5_needNote oI_X5_needNote lk_X5_239 rfl dX5_note_2 rfl (Or.inl rfl) ?_
  refine g_aload0 dX5_note_5 ?_
  refine f_getr (r := 1) rfl (by decide) rfl rfl fl_X5_10 dX5_note_6 ?_
  refine f_getr (r := 4) rfl (by decide) rfl rfl fl_X5_242 dX5_note_9 ?_
  refine g_iload1 dX5_note_12 ?_
  refine f_cS2w (atI rfl (by decide) h.1 (by show x < (40 : Nat); omega)) oY_X5_at oT_X5_at lk_X5_164 rfl dX5_note_13 rfl (Or.inl rfl) ?_
  rw [show σ 4 x = wTu s x from hc.tu x h.1 h.2]
  refine g_iretI rfl dX5_note_16 ?_
  exact Fw.ret rfl
theorem note_bad {B : Int} {s : Int → Int} (ho : SOK B s) (hc : CSt σ 1 s) {x : Int} (hx : R32 x) (h : ¬ (0 ≤ x ∧ x < s 9)) : Ft g zX5_note [.ref 0, iv x] σ l 1 := by
  refine Fn.of [some (.ref 0), some (iv x)] rfl (by decide) (Nat.le_of_ble_eq_true rfl) rfl ?_
  refine g_aload0 dX5_note_0 ?_
  refine g_iload1 dX5_note_1 ?_
  refine f_cV1t (needNote_bad ho hc hx h) rfl (by decide) rfl oY_X5_needNote oI_X5_needNote lk_X5_239 rfl dX5_note_2 (by omega) (by omega) rfl (Or.inl rfl) rfl ?_
  exact Ft.ret
def wEt (s : Int → Int) (t : Int) : List Nat := EP (wTe s) (2 * 3 ^ wH s) t
theorem tone_w {B : Int} {s : Int → Int} (ho : SOK B s) (hCh : ChO σ 24 (wTE s (s 4) (s 5)) (wT s) ((3 ^ wH s : Nat) : Int) (2 * 3 ^ wH s)) (t : Int) : ∃ fs : Int, atF σ l (24 + 1) t = fs ∧ ctF (σ (24 + 1)) t = ((wEt s t).length : Int) ∧ (wEt s t).length ≤ 4374 ∧ 0 ≤ fs ∧ fs ≤ 100000 ∧ ∀ i q : Nat, (wEt s t)[i]? = some q → fs + i < 2 * ((3 ^ wH s : Nat) : Int) ∧ σ 30 (fs + i) = (q : Int) ∧ σ 31 (fs + i) = (cdP ((3 ^ wH s : Nat) : Int) q : Int) := by
  have hp := p3_le ho.h7
  obtain ⟨fs, a1, a2, a3, a4, a5, a6⟩ := tone_of (l := l) isCh24 hCh (by omega) t
  exact ⟨fs, a1, a2, a3, a4, a5, fun i q h => ⟨by have := (a6 i q h).1; omega, (a6 i q h).2⟩⟩
theorem wEt_lt {s : Int → Int} {t : Int} {i q : Nat} (h : (wEt s t)[i]? = some q) : q < 2 * 3 ^ wH s := (EP_lt h).1
theorem plays_ok {B : Int} {s : Int → Int} (hK : Kc σ l B s) {t : Int} (hx : R32 t) (h : 0 ≤ t ∧ t < 25) : Fq g zX5_plays [.ref 0, iv t] σ l B s (iv ((wEt s t).length : Int)) := by
  have ho := hK.ok
  have hc := hK.st
  have hp := p3_le ho.h7
  have hp0 := p3_pos (wH s)
  have hNn : 2 * 3 ^ wH s ≤ 4374 := by omega
  have hNe : ((2 * 3 ^ wH s : Nat) : Int) = 2 * ((3 ^ wH s : Nat) : Int) := by push_cast; rfl
  obtain ⟨L, hL, hF⟩ := freshen_ok (g := g) (lev := 2) hK ⟨by decide, by decide⟩
  refine ⟨L, hL, Fn.of [some (.ref 0), some (iv t)] rfl (by decide) (Nat.le_of_ble_eq_true rfl) rfl ?_⟩
  refine g_aload0 dX5_plays_0 ?_
  refine g_iload1 dX5_plays_1 ?_
  refine f_cV1d (needTone_ok hx (by omega)) rfl (by decide) rfl oY_X5_needTone oI_X5_needTone lk_X5_198 rfl dX5_plays_2 rfl (Or.inl rfl) ?_
  refine g_aload0 dX5_plays_5 ?_
  refine g_iconst dX5_plays_6 ?_
  refine f_cV1m (hF) rfl (by decide) rfl oY_X5_freshen oI_X5_freshen lk_X5_178 rfl dX5_plays_7 (Nat.le_refl _) (Nat.le_refl _) rfl (okFb_of rfl) (fun σ7 l7 h7 => ?_)
  obtain ⟨hq, K1, hv, hL1⟩ := h7
  have c1 := K1.st
  obtain ⟨F1, F2⟩ := K1.ca.p1 (by omega)
  have hfc := K1.ca.fc
  have hrw : ∀ p, 0 ≤ p → p < 2 * ((3 ^ wH s : Nat) : Int) → 0 ≤ fgF ((3 ^ wH s : Nat) : Int) p ∧ fgF ((3 ^ wH s : Nat) : Int) p < ((3 ^ wH s : Nat) : Int) := fun p a0 a1 => fgF_rng a0 a1
  obtain ⟨hCh, G2⟩ := K1.ca.p2 (by omega)
  obtain ⟨fs, hat, hct, hlen, hfs0, hfs1, hqA⟩ := tone_w (l := l7) ho hCh t
  refine g_aload0 dX5_plays_10 ?_
  refine f_getr (r := 24) rfl (by decide) rfl rfl fl_X5_60 dX5_plays_11 ?_
  refine g_iload1 dX5_plays_14 ?_
  refine f_cV1w (countOf_ok isCh24 hx) rfl (by decide) rfl oY_X0_countOf oI_X0_countOf lk_X5_201 rfl dX5_plays_15 rfl (Or.inl rfl) ?_
  rw [hct]
  refine g_iretI rfl dX5_plays_18 ?_
  exact Fq.ret rfl hq K1 hL1
theorem plays_bad {B : Int} {s : Int → Int} (ho : SOK B s) (hc : CSt σ 1 s) {t : Int} (hx : R32 t) (h : ¬ (0 ≤ t ∧ t < 25)) : Ft g zX5_plays [.ref 0, iv t] σ l 0 := by
  refine Fn.of [some (.ref 0), some (iv t)] rfl (by decide) (Nat.le_of_ble_eq_true rfl) rfl ?_
  refine g_aload0 dX5_plays_0 ?_
  refine g_iload1 dX5_plays_1 ?_
  refine f_cV1t (needTone_bad hx (by omega)) rfl (by decide) rfl oY_X5_needTone oI_X5_needTone lk_X5_198 rfl dX5_plays_2 (by omega) (by omega) rfl (Or.inl rfl) rfl ?_
  exact Ft.ret
theorem playOf_ok {B : Int} {s : Int → Int} (hK : Kc σ l B s) {t x : Int} (hx : R32 t) (h : 0 ≤ t ∧ t < 25) (hi : R32 x) : Fq g zX5_playOf [.ref 0, iv t, iv x] σ l B s (iv (if 0 ≤ x ∧ x < ((wEt s t).length : Int) then ((wEt s t).getD x.toNat 0 : Nat) else -1)) := by
  have ho := hK.ok
  have hc := hK.st
  have hp := p3_le ho.h7
  have hp0 := p3_pos (wH s)
  have hNn : 2 * 3 ^ wH s ≤ 4374 := by omega
  have hNe : ((2 * 3 ^ wH s : Nat) : Int) = 2 * ((3 ^ wH s : Nat) : Int) := by push_cast; rfl
  obtain ⟨L, hL, hF⟩ := freshen_ok (g := g) (lev := 2) hK ⟨by decide, by decide⟩
  refine ⟨L, hL, Fn.of [some (.ref 0), some (iv t), some (iv x)] rfl (by decide) (Nat.le_of_ble_eq_true rfl) rfl ?_⟩
  refine g_aload0 dX5_playOf_0 ?_
  refine g_iload1 dX5_playOf_1 ?_
  refine f_cV1d (needTone_ok hx (by omega)) rfl (by decide) rfl oY_X5_needTone oI_X5_needTone lk_X5_198 rfl dX5_playOf_2 rfl (Or.inl rfl) ?_
  refine g_aload0 dX5_playOf_5 ?_
  refine g_iconst dX5_playOf_6 ?_
  refine f_cV1m (hF) rfl (by decide) rfl oY_X5_freshen oI_X5_freshen lk_X5_178 rfl dX5_playOf_7 (Nat.le_refl _) (Nat.le_refl _) rfl (okFb_of rfl) (fun σ7 l7 h7 => ?_)
  obtain ⟨hq, K1, hv, hL1⟩ := h7
  have c1 := K1.st
  obtain ⟨F1, F2⟩ := K1.ca.p1 (by omega)
  have hfc := K1.ca.fc
  have hrw : ∀ p, 0 ≤ p → p < 2 * ((3 ^ wH s : Nat) : Int) → 0 ≤ fgF ((3 ^ wH s : Nat) : Int) p ∧ fgF ((3 ^ wH s : Nat) : Int) p < ((3 ^ wH s : Nat) : Int) := fun p a0 a1 => fgF_rng a0 a1
  obtain ⟨hCh, G2⟩ := K1.ca.p2 (by omega)
  obtain ⟨fs, hat, hct, hlen, hfs0, hfs1, hqA⟩ := tone_w (l := l7) ho hCh t
  refine g_iload2 dX5_playOf_10 ?_
  refine g_if_lt hi (tgt := 26) dX5_playOf_11 rfl (fun h11 => ?_) (fun h11 => ?_)
  · refine g_iconst dX5_playOf_26 ?_
    refine g_iretI rfl dX5_playOf_27 ?_
    exact Fq.ret (by rw [if_neg (by omega)]) hq K1 hL1
  · refine g_iload2 dX5_playOf_14 ?_
    refine g_aload0 dX5_playOf_15 ?_
    refine f_getr (r := 24) rfl (by decide) rfl rfl fl_X5_60 dX5_playOf_16 ?_
    refine g_iload1 dX5_playOf_19 ?_
    refine f_cV1w (countOf_ok isCh24 hx) rfl (by decide) rfl oY_X0_countOf oI_X0_countOf lk_X5_201 rfl dX5_playOf_20 rfl (Or.inl rfl) ?_
    rw [hct]
    refine g_icmp_lt hi ⟨by omega, by omega⟩ (tgt := 28) dX5_playOf_23 rfl (fun h23 => ?_) (fun h23 => ?_)
    · refine g_aload0 dX5_playOf_28 ?_
      refine f_getr (r := 24) rfl (by decide) rfl rfl fl_X5_60 dX5_playOf_29 ?_
      refine f_getr (r := 30) rfl (by decide) rfl rfl fl_X5_204 dX5_playOf_32 ?_
      refine g_aload0 dX5_playOf_35 ?_
      refine f_getr (r := 24) rfl (by decide) rfl rfl fl_X5_60 dX5_playOf_36 ?_
      refine g_iload1 dX5_playOf_39 ?_
      refine f_cV1w (firstOfA_ok isCh24 hx) rfl (by decide) rfl oY_X0_firstOf oI_X0_firstOf lk_X5_207 rfl dX5_playOf_40 rfl (Or.inl rfl) ?_
      rw [hat]
      refine g_iload2 dX5_playOf_43 ?_
      refine g_iadd dX5_playOf_44 ?_
      refine f_cS2w (atI rfl (by decide) (by omega) (by rw [K1.ca.ce.2.1]; have := (hqA x.toNat _ (getD_some (by omega))).1; omega)) oY_X5_at oT_X5_at lk_X5_164 rfl dX5_playOf_45 rfl (Or.inl rfl) ?_
      rw [show fs + x = fs + ((x.toNat : Nat) : Int) from by omega, (hqA x.toNat _ (getD_some (by omega))).2.1]
      refine g_iretI rfl dX5_playOf_48 ?_
      exact Fq.ret (by rw [if_pos ⟨by omega, by omega⟩]) hq K1 hL1
    · refine g_iconst dX5_playOf_26 ?_
      refine g_iretI rfl dX5_playOf_27 ?_
      exact Fq.ret (by rw [if_neg (by omega)]) hq K1 hL1
theorem playOf_bad {B : Int} {s : Int → Int} (ho : SOK B s) (hc : CSt σ 1 s) {t x : Int} (hx : R32 t) (h : ¬ (0 ≤ t ∧ t < 25)) : Ft g zX5_playOf [.ref 0, iv t, iv x] σ l 0 := by
  refine Fn.of [some (.ref 0), some (iv t), some (iv x)] rfl (by decide) (Nat.le_of_ble_eq_true rfl) rfl ?_
  refine g_aload0 dX5_playOf_0 ?_
  refine g_iload1 dX5_playOf_1 ?_
  refine f_cV1t (needTone_bad hx (by omega)) rfl (by decide) rfl oY_X5_needTone oI_X5_needTone lk_X5_198 rfl dX5_playOf_2 (by omega) (by omega) rfl (Or.inl rfl) rfl ?_
  exact Ft.ret
def absI (a : Int) : Int := if 0 ≤ a then a else -a
theorem pk_1 (f : Nat → Int) (n : Nat) (h : ∀ i, i < n → f i < 1000000) (hn : 0 < n) : (pk f n).2 < 1000000 := by
  induction n with
  | zero => omega
  | succ n ih =>
    unfold pk
    have h1 := h n (by omega)
    split
    · exact h1
    · rename_i e
      by_cases h0 : n = 0
      · subst h0
        exact absurd h1 (by have : (pk f 0).2 = 2000000 := rfl
                            omega)
      · exact ih (fun i hi => h i (by omega)) (by omega)
theorem tone_end {o N : Nat} {fs t : Int} {len : Nat} (hs : isCh o) (hat : atF σ l (o + 1) t = fs) (hct : ctF (σ (o + 1)) t = (len : Int)) (h : 0 ≤ t ∧ t < 25) : atF σ l (o + 1) (t + 1) = fs + len := by
  unfold ctF at hct
  rw [if_pos h] at hct
  rw [atF_in h.1 (by rw [hs.n1]; omega)] at hat
  rw [atF_in (by omega) (by rw [hs.n1]; omega)]
  omega
theorem truest_ok {B : Int} {s : Int → Int} (hK : Kc σ l B s) {t : Int} (hx : R32 t) (h : 0 ≤ t ∧ t < 25) : Fq g zX5_truest [.ref 0, iv t] σ l B s (iv (pkA (fun p => absI (wCn s p - 100 * t)) (wEt s t))) := by
  have ho := hK.ok
  have hc := hK.st
  have hp := p3_le ho.h7
  have hp0 := p3_pos (wH s)
  have hNn : 2 * 3 ^ wH s ≤ 4374 := by omega
  have hNe : ((2 * 3 ^ wH s : Nat) : Int) = 2 * ((3 ^ wH s : Nat) : Int) := by push_cast; rfl
  obtain ⟨L, hL, hF⟩ := freshen_ok (g := g) (lev := 2) hK ⟨by decide, by decide⟩
  refine ⟨L, hL, Fn.of [some (.ref 0), some (iv t), none, none, none, none, none, none] rfl (by decide) (Nat.le_of_ble_eq_true rfl) rfl ?_⟩
  refine g_aload0 dX5_truest_0 ?_
  refine g_iload1 dX5_truest_1 ?_
  refine f_cV1d (needTone_ok hx (by omega)) rfl (by decide) rfl oY_X5_needTone oI_X5_needTone lk_X5_198 rfl dX5_truest_2 rfl (Or.inl rfl) ?_
  refine g_aload0 dX5_truest_5 ?_
  refine g_iconst dX5_truest_6 ?_
  refine f_cV1m (hF) rfl (by decide) rfl oY_X5_freshen oI_X5_freshen lk_X5_178 rfl dX5_truest_7 (Nat.le_refl _) (Nat.le_refl _) rfl (okFb_of rfl) (fun σ7 l7 h7 => ?_)
  obtain ⟨hq, K1, hv, hL1⟩ := h7
  have c1 := K1.st
  obtain ⟨F1, F2⟩ := K1.ca.p1 (by omega)
  have hfc := K1.ca.fc
  have hrw : ∀ p, 0 ≤ p → p < 2 * ((3 ^ wH s : Nat) : Int) → 0 ≤ fgF ((3 ^ wH s : Nat) : Int) p ∧ fgF ((3 ^ wH s : Nat) : Int) p < ((3 ^ wH s : Nat) : Int) := fun p a0 a1 => fgF_rng a0 a1
  obtain ⟨hCh, G2⟩ := K1.ca.p2 (by omega)
  obtain ⟨fs, hat, hct, hlen, hfs0, hfs1, hqA⟩ := tone_w (l := l7) ho hCh t
  have hend := tone_end (o := 24) (N := 0) isCh24 hat hct h
  have hg : ∀ i : Nat, i < (wEt s t).length → (wEt s t).getD i 0 < 2 * 3 ^ wH s ∧ fs + i < 2 * ((3 ^ wH s : Nat) : Int) ∧ σ7 30 (fs + i) = ((wEt s t).getD i 0 : Nat) ∧ σ7 31 (fs + i) = (cdP ((3 ^ wH s : Nat) : Int) ((wEt s t).getD i 0 : Nat) : Int) := fun i hi => ⟨wEt_lt (getD_some hi), (hqA i _ (getD_some hi)).1, (hqA i _ (getD_some hi)).2⟩
  have hce := K1.ca.ce
  generalize hLE : wEt s t = LE at *
  obtain ⟨f, hfd⟩ : ∃ f : Nat → Int, f = fun i => absI (wCn s (LE.getD i 0 : Nat) - 100 * t) := ⟨_, rfl⟩
  have hfe : ∀ i, f i = absI (wCn s (LE.getD i 0 : Nat) - 100 * t) := fun i => by rw [hfd]
  have hf : ∀ i, i < LE.length → 0 ≤ f i ∧ f i ≤ 10000 := fun i hi => by
    rw [hfe]
    have := wCn_rng ho (LE.getD i 0 : Nat)
    unfold absI
    split <;> omega
  have loop : ∀ q, q ≤ LE.length → ∀ (i be le : Int) (u6 u7 : Option Value), i = fs + (q : Int) → be = (if (pk f q).1 = -1 then (-1 : Int) else ((LE.getD (pk f q).1.toNat 0 : Nat) : Int)) → le = min 1000000 (pk f q).2 → FW g zX5_truest (pcL l - pcL L - (pcL l - pcL L)) (psL l - psL L - (psL l - psL L)) (fun o τ l' => o = .inl (some (iv (pkA (fun p => absI (wCn s p - 100 * t)) (LE)))) ∧ Qf σ τ ∧ Kc τ l' B s ∧ LE2 L l') 37 [some (.ref 0), some (iv t), some (iv be), some (iv le), some (iv (fs + LE.length)), some (iv i), u6, u7] [] σ7 l7 := by
    refine loopUp LE.length (fun q hq2 ih i be le u6 u7 hi hbe hle => ?_)
    subst hi
    have hpr := pk_rng f q (fun i hi => by have := hf i (by omega); omega)
    refine g_iload5 dX5_truest_37 ?_
    refine g_iload4 dX5_truest_39 ?_
    refine g_icmp_ge ⟨by omega, by omega⟩ ⟨by omega, by omega⟩ (tgt := 95) dX5_truest_41 rfl (fun h41 => ?_) (fun h41 => ?_)
    · refine g_iload2 dX5_truest_95 ?_
      refine g_iretI rfl dX5_truest_96 ?_
      have e9 : q = LE.length := by omega
      subst e9
      refine Fq.ret ?_ hq K1 hL1
      rw [hbe]
      unfold pkA
      rw [hfd]
    · refine g_aload0 dX5_truest_44 ?_
      refine f_getr (r := 24) rfl (by decide) rfl rfl fl_X5_60 dX5_truest_45 ?_
      refine f_getr (r := 30) rfl (by decide) rfl rfl fl_X5_204 dX5_truest_48 ?_
      refine g_iload5 dX5_truest_51 ?_
      refine f_cS2w (atI rfl (by decide) (by omega) (by rw [hce.2.1]; have := (hg q (by omega)).2.1; omega)) oY_X5_at oT_X5_at lk_X5_164 rfl dX5_truest_53 rfl (Or.inl rfl) ?_
      rw [(hg q (by omega)).2.2.1]
      have hq4 := (hg q (by omega)).1
      have h0 := hrw (LE.getD q 0 : Nat) (by omega) (by omega)
      have hw6 := wCn_rng ho (LE.getD q 0 : Nat)
      refine g_istore6 dX5_truest_56 rfl (by decide) ?_
      refine g_aload0 dX5_truest_58 ?_
      refine f_getr (r := 17) rfl (by decide) rfl rfl fl_X5_53 dX5_truest_59 ?_
      refine g_iload6 dX5_truest_62 ?_
      refine f_cV1w (centsOf_ok (by rw [F1.1, hfc.2.2.2.2]; omega) (by rw [F1.1]; have := (hg q (by omega)).1; omega)) rfl (by decide) rfl oY_X1_centsOf oI_X1_centsOf lk_X5_188 rfl dX5_truest_64 rfl (Or.inl rfl) ?_
      rw [F1.1, (F1.2 _ h0.1 h0.2).2, show wCen s (fgF ((3 ^ wH s : Nat) : Int) (LE.getD q 0 : Nat)) + (if ((LE.getD q 0 : Nat) : Int) < ((3 ^ wH s : Nat) : Int) then 0 else 1200) = wCn s (LE.getD q 0 : Nat) from rfl]
      refine g_bipush dX5_truest_67 (by decide) ?_
      refine g_iload1 dX5_truest_69 ?_
      refine g_imul dX5_truest_70 ?_
      refine g_isub dX5_truest_71 ?_
      refine g_mabs ⟨by omega, by omega⟩ ma_X5_211 ⟨by decide, Nat.le_of_ble_eq_true rfl⟩ dX5_truest_72 ?_
      rw [show (if 0 ≤ wCn s (LE.getD q 0 : Nat) - 100 * t then wCn s (LE.getD q 0 : Nat) - 100 * t else -(wCn s (LE.getD q 0 : Nat) - 100 * t)) = f q from by rw [hfe]; rfl]
      have hfq := hf q (by omega)
      refine g_istore7 dX5_truest_75 rfl (by decide) ?_
      refine g_iload7 dX5_truest_77 ?_
      refine g_iload3 dX5_truest_79 ?_
      refine g_icmp_ge ⟨by omega, by omega⟩ ⟨by omega, by omega⟩ (tgt := 89) dX5_truest_80 rfl (fun h80 => ?_) (fun h80 => ?_)
      · refine g_iinc5 dX5_truest_89 rfl (by decide) ?_
        refine g_goto (tgt := 37) dX5_truest_92 rfl ?_
        refine ih (by omega) _ _ _ _ _ (by push_cast; omega) ?_ ?_
        · rw [pkB_ge (by omega)]
          exact hbe
        · rw [pkB_ge (by omega)]
          exact hle
      · refine g_iload7 dX5_truest_83 ?_
        refine g_istore3 dX5_truest_85 rfl (by decide) ?_
        refine g_iload6 dX5_truest_86 ?_
        refine g_istore2 dX5_truest_88 rfl (by decide) ?_
        refine g_iinc5 dX5_truest_89 rfl (by decide) ?_
        refine g_goto (tgt := 37) dX5_truest_92 rfl ?_
        refine ih (by omega) _ _ _ _ _ (by push_cast; omega) ?_ ?_
        · rw [pkB_lt (by omega), if_neg (by dsimp only; omega)]
          dsimp only
          rw [Int.toNat_natCast]
        · rw [pkB_lt (by omega)]
          dsimp only
          omega
  refine g_iconst dX5_truest_10 ?_
  refine g_istore2 dX5_truest_11 rfl (by decide) ?_
  refine g_ldc (v := Int32.ofInt (1000000)) kc_X5_210 dX5_truest_12 ?_
  refine g_istore3 dX5_truest_14 rfl (by decide) ?_
  refine g_aload0 dX5_truest_15 ?_
  refine f_getr (r := 24) rfl (by decide) rfl rfl fl_X5_60 dX5_truest_16 ?_
  refine g_iload1 dX5_truest_19 ?_
  refine g_iconst dX5_truest_20 ?_
  refine g_iadd dX5_truest_21 ?_
  refine f_cV1w (firstOfA_ok isCh24 ⟨by omega, by omega⟩) rfl (by decide) rfl oY_X0_firstOf oI_X0_firstOf lk_X5_207 rfl dX5_truest_22 rfl (Or.inl rfl) ?_
  rw [hend]
  refine g_istore4 dX5_truest_25 rfl (by decide) ?_
  refine g_aload0 dX5_truest_27 ?_
  refine f_getr (r := 24) rfl (by decide) rfl rfl fl_X5_60 dX5_truest_28 ?_
  refine g_iload1 dX5_truest_31 ?_
  refine f_cV1w (firstOfA_ok isCh24 hx) rfl (by decide) rfl oY_X0_firstOf oI_X0_firstOf lk_X5_207 rfl dX5_truest_32 rfl (Or.inl rfl) ?_
  rw [hat]
  refine g_istore5 dX5_truest_35 rfl (by decide) ?_
  exact loop 0 (Nat.zero_le _) _ _ _ _ _ (by omega) rfl rfl
theorem truest_bad {B : Int} {s : Int → Int} (ho : SOK B s) (hc : CSt σ 1 s) {t : Int} (hx : R32 t) (h : ¬ (0 ≤ t ∧ t < 25)) : Ft g zX5_truest [.ref 0, iv t] σ l 0 := by
  refine Fn.of [some (.ref 0), some (iv t), none, none, none, none, none, none] rfl (by decide) (Nat.le_of_ble_eq_true rfl) rfl ?_
  refine g_aload0 dX5_truest_0 ?_
  refine g_iload1 dX5_truest_1 ?_
  refine f_cV1t (needTone_bad hx (by omega)) rfl (by decide) rfl oY_X5_needTone oI_X5_needTone lk_X5_198 rfl dX5_truest_2 (by omega) (by omega) rfl (Or.inl rfl) rfl ?_
  exact Ft.ret
theorem nearest_ok {B : Int} {s : Int → Int} (hK : Kc σ l B s) {t : Int} (hx : R32 t) (h : 0 ≤ t ∧ t < 25) : Fq g zX5_nearest [.ref 0, iv t] σ l B s (iv (pkA (fun p => wCo s (s 10) p) (wEt s t))) := by
  have ho := hK.ok
  have hc := hK.st
  have hp := p3_le ho.h7
  have hp0 := p3_pos (wH s)
  have hNn : 2 * 3 ^ wH s ≤ 4374 := by omega
  have hNe : ((2 * 3 ^ wH s : Nat) : Int) = 2 * ((3 ^ wH s : Nat) : Int) := by push_cast; rfl
  obtain ⟨L, hL, hF⟩ := freshen_ok (g := g) (lev := 2) hK ⟨by decide, by decide⟩
  refine ⟨L, hL, Fn.of [some (.ref 0), some (iv t), none, none, none, none, none, none] rfl (by decide) (Nat.le_of_ble_eq_true rfl) rfl ?_⟩
  refine g_aload0 dX5_nearest_0 ?_
  refine g_iload1 dX5_nearest_1 ?_
  refine f_cV1d (needTone_ok hx (by omega)) rfl (by decide) rfl oY_X5_needTone oI_X5_needTone lk_X5_198 rfl dX5_nearest_2 rfl (Or.inl rfl) ?_
  refine g_aload0 dX5_nearest_5 ?_
  refine g_iconst dX5_nearest_6 ?_
  refine f_cV1m (hF) rfl (by decide) rfl oY_X5_freshen oI_X5_freshen lk_X5_178 rfl dX5_nearest_7 (Nat.le_refl _) (Nat.le_refl _) rfl (okFb_of rfl) (fun σ7 l7 h7 => ?_)
  obtain ⟨hq, K1, hv, hL1⟩ := h7
  have c1 := K1.st
  obtain ⟨F1, F2⟩ := K1.ca.p1 (by omega)
  have hfc := K1.ca.fc
  have hrw : ∀ p, 0 ≤ p → p < 2 * ((3 ^ wH s : Nat) : Int) → 0 ≤ fgF ((3 ^ wH s : Nat) : Int) p ∧ fgF ((3 ^ wH s : Nat) : Int) p < ((3 ^ wH s : Nat) : Int) := fun p a0 a1 => fgF_rng a0 a1
  obtain ⟨hCh, G2⟩ := K1.ca.p2 (by omega)
  obtain ⟨fs, hat, hct, hlen, hfs0, hfs1, hqA⟩ := tone_w (l := l7) ho hCh t
  have hend := tone_end (o := 24) (N := 0) isCh24 hat hct h
  have hg : ∀ i : Nat, i < (wEt s t).length → (wEt s t).getD i 0 < 2 * 3 ^ wH s ∧ fs + i < 2 * ((3 ^ wH s : Nat) : Int) ∧ σ7 30 (fs + i) = ((wEt s t).getD i 0 : Nat) ∧ σ7 31 (fs + i) = (cdP ((3 ^ wH s : Nat) : Int) ((wEt s t).getD i 0 : Nat) : Int) := fun i hi => ⟨wEt_lt (getD_some hi), (hqA i _ (getD_some hi)).1, (hqA i _ (getD_some hi)).2⟩
  have hce := K1.ca.ce
  generalize hLE : wEt s t = LE at *
  obtain ⟨f, hfd⟩ : ∃ f : Nat → Int, f = fun i => wCo s (s 10) (LE.getD i 0 : Nat) := ⟨_, rfl⟩
  have hfe : ∀ i, f i = wCo s (s 10) (LE.getD i 0 : Nat) := fun i => by rw [hfd]
  have hf : ∀ i, i < LE.length → 0 ≤ f i ∧ f i ≤ 10000 := fun i hi => by
    rw [hfe]
    have b1 := ho.move
    have b2 := ho.half
    have b3 := ho.breath
    have a1 := coD_ge (m := s 6) (h := s 7) (b := s 8) (H := wH s) (p := s 10) (q := (LE.getD i 0 : Nat)) (by omega) (by omega) (by omega)
    have a2 := coD_le (m := s 6) (h := s 7) (b := s 8) (H := wH s) (p := s 10) (q := (LE.getD i 0 : Nat)) (by omega) (by omega) (by omega) ho.h7
    exact ⟨a1, Int.le_trans a2 (by decide)⟩
  have loop : ∀ q, q ≤ LE.length → ∀ (i be le : Int) (u7 : Option Value), i = fs + (q : Int) → be = (if (pk f q).1 = -1 then (-1 : Int) else ((LE.getD (pk f q).1.toNat 0 : Nat) : Int)) → le = min 1000000 (pk f q).2 → FW g zX5_nearest (pcL l - pcL L - (pcL l - pcL L)) (psL l - psL L - (psL l - psL L)) (fun o τ l' => o = .inl (some (iv (pkA (fun p => wCo s (s 10) p) (LE)))) ∧ Qf σ τ ∧ Kc τ l' B s ∧ LE2 L l') 53 [some (.ref 0), some (iv t), some (iv (cdP ((3 ^ wH s : Nat) : Int) (s 10) : Int)), some (iv be), some (iv le), some (iv (fs + LE.length)), some (iv i), u7] [] σ7 l7 := by
    refine loopUp LE.length (fun q hq2 ih i be le u7 hi hbe hle => ?_)
    subst hi
    have hpr := pk_rng f q (fun i hi => by have := hf i (by omega); omega)
    refine g_iload6 dX5_nearest_53 ?_
    refine g_iload5 dX5_nearest_55 ?_
    refine g_icmp_ge ⟨by omega, by omega⟩ ⟨by omega, by omega⟩ (tgt := 112) dX5_nearest_57 rfl (fun h57 => ?_) (fun h57 => ?_)
    · refine g_iload3 dX5_nearest_112 ?_
      refine g_iretI rfl dX5_nearest_113 ?_
      have e9 : q = LE.length := by omega
      subst e9
      refine Fq.ret ?_ hq K1 hL1
      rw [hbe]
      unfold pkA
      rw [hfd]
    · refine g_aload0 dX5_nearest_60 ?_
      refine f_getr (r := 1) rfl (by decide) rfl rfl fl_X5_10 dX5_nearest_61 ?_
      refine g_iload2 dX5_nearest_64 ?_
      refine g_aload0 dX5_nearest_65 ?_
      refine f_getr (r := 24) rfl (by decide) rfl rfl fl_X5_60 dX5_nearest_66 ?_
      refine f_getr (r := 31) rfl (by decide) rfl rfl fl_X5_233 dX5_nearest_69 ?_
      refine g_iload6 dX5_nearest_72 ?_
      refine f_cS2w (atI rfl (by decide) (by omega) (by rw [hce.2.2]; have := (hg q (by omega)).2.1; omega)) oY_X5_at oT_X5_at lk_X5_164 rfl dX5_nearest_74 rfl (Or.inl rfl) ?_
      rw [(hg q (by omega)).2.2.2]
      have hq4 := (hg q (by omega)).1
      refine f_cV2w (priceOf_ok isSt1 (cdP_lt _ _) (cdP_lt _ _)) rfl (by decide) rfl oY_X3_priceOf oI_X3_priceOf lk_X5_236 rfl dX5_nearest_77 rfl (Or.inl rfl) ?_
      rw [c1.f5, c1.f6, c1.f7, prC_coD ho.h7 ho.play.1 ho.play.2 (by omega) (by omega), show coD (s 6) (s 7) (s 8) (wH s) (s 10) (LE.getD q 0 : Nat) = f q from by rw [hfe]]
      have hfq := hf q (by omega)
      refine g_istore7 dX5_nearest_80 rfl (by decide) ?_
      refine g_iload7 dX5_nearest_82 ?_
      refine g_iload4 dX5_nearest_84 ?_
      refine g_icmp_ge ⟨by omega, by omega⟩ ⟨by omega, by omega⟩ (tgt := 106) dX5_nearest_86 rfl (fun h86 => ?_) (fun h86 => ?_)
      · refine g_iinc6 dX5_nearest_106 rfl (by decide) ?_
        refine g_goto (tgt := 53) dX5_nearest_109 rfl ?_
        refine ih (by omega) _ _ _ _ (by push_cast; omega) ?_ ?_
        · rw [pkB_ge (by omega)]
          exact hbe
        · rw [pkB_ge (by omega)]
          exact hle
      · refine g_iload7 dX5_nearest_89 ?_
        refine g_istore4 dX5_nearest_91 rfl (by decide) ?_
        refine g_aload0 dX5_nearest_93 ?_
        refine f_getr (r := 24) rfl (by decide) rfl rfl fl_X5_60 dX5_nearest_94 ?_
        refine f_getr (r := 30) rfl (by decide) rfl rfl fl_X5_204 dX5_nearest_97 ?_
        refine g_iload6 dX5_nearest_100 ?_
        refine f_cS2w (atI rfl (by decide) (by omega) (by rw [hce.2.1]; have := (hg q (by omega)).2.1; omega)) oY_X5_at oT_X5_at lk_X5_164 rfl dX5_nearest_102 rfl (Or.inl rfl) ?_
        rw [(hg q (by omega)).2.2.1]
        refine g_istore3 dX5_nearest_105 rfl (by decide) ?_
        refine g_iinc6 dX5_nearest_106 rfl (by decide) ?_
        refine g_goto (tgt := 53) dX5_nearest_109 rfl ?_
        refine ih (by omega) _ _ _ _ (by push_cast; omega) ?_ ?_
        · rw [pkB_lt (by omega), if_neg (by dsimp only; omega)]
          dsimp only
          rw [Int.toNat_natCast]
        · rw [pkB_lt (by omega)]
          dsimp only
          omega
  refine g_aload0 dX5_nearest_10 ?_
  refine f_getr (r := 17) rfl (by decide) rfl rfl fl_X5_53 dX5_nearest_11 ?_
  refine g_aload0 dX5_nearest_14 ?_
  refine f_getr (r := 1) rfl (by decide) rfl rfl fl_X5_10 dX5_nearest_15 ?_
  refine f_geti (J := 10) rfl (by decide) rfl rfl fl_X5_148 dX5_nearest_18 ?_
  rw [c1.f10]
  refine f_cV1w (codeOf_ok (c := cdN (fgF ((3 ^ wH s : Nat) : Int) (s 10))) (by rw [F1.1, hfc.1]; omega) (by rw [F1.1]; exact ho.play) (by rw [F1.1]; exact (K1.ca.fg _ (hrw _ ho.play.1 ho.play.2).1 (by have := (hrw _ ho.play.1 ho.play.2).2; omega)).1)) rfl (by decide) rfl oY_X1_codeOf oI_X1_codeOf lk_X5_222 rfl dX5_nearest_21 rfl (Or.inl rfl) ?_
  rw [F1.1, show (cdN (fgF ((3 ^ wH s : Nat) : Int) (s 10)) ||| (if s 10 < ((3 ^ wH s : Nat) : Int) then 0 else 16384) : Nat) = cdP ((3 ^ wH s : Nat) : Int) (s 10) from rfl]
  refine g_istore2 dX5_nearest_24 rfl (by decide) ?_
  refine g_iconst dX5_nearest_25 ?_
  refine g_istore3 dX5_nearest_26 rfl (by decide) ?_
  refine g_ldc (v := Int32.ofInt (1000000)) kc_X5_210 dX5_nearest_27 ?_
  refine g_istore4 dX5_nearest_29 rfl (by decide) ?_
  refine g_aload0 dX5_nearest_31 ?_
  refine f_getr (r := 24) rfl (by decide) rfl rfl fl_X5_60 dX5_nearest_32 ?_
  refine g_iload1 dX5_nearest_35 ?_
  refine g_iconst dX5_nearest_36 ?_
  refine g_iadd dX5_nearest_37 ?_
  refine f_cV1w (firstOfA_ok isCh24 ⟨by omega, by omega⟩) rfl (by decide) rfl oY_X0_firstOf oI_X0_firstOf lk_X5_207 rfl dX5_nearest_38 rfl (Or.inl rfl) ?_
  rw [hend]
  refine g_istore5 dX5_nearest_41 rfl (by decide) ?_
  refine g_aload0 dX5_nearest_43 ?_
  refine f_getr (r := 24) rfl (by decide) rfl rfl fl_X5_60 dX5_nearest_44 ?_
  refine g_iload1 dX5_nearest_47 ?_
  refine f_cV1w (firstOfA_ok isCh24 hx) rfl (by decide) rfl oY_X0_firstOf oI_X0_firstOf lk_X5_207 rfl dX5_nearest_48 rfl (Or.inl rfl) ?_
  rw [hat]
  refine g_istore6 dX5_nearest_51 rfl (by decide) ?_
  exact loop 0 (Nat.zero_le _) _ _ _ _ (by omega) rfl rfl
theorem nearest_bad {B : Int} {s : Int → Int} (ho : SOK B s) (hc : CSt σ 1 s) {t : Int} (hx : R32 t) (h : ¬ (0 ≤ t ∧ t < 25)) : Ft g zX5_nearest [.ref 0, iv t] σ l 0 := by
  refine Fn.of [some (.ref 0), some (iv t), none, none, none, none, none, none] rfl (by decide) (Nat.le_of_ble_eq_true rfl) rfl ?_
  refine g_aload0 dX5_nearest_0 ?_
  refine g_iload1 dX5_nearest_1 ?_
  refine f_cV1t (needTone_bad hx (by omega)) rfl (by decide) rfl oY_X5_needTone oI_X5_needTone lk_X5_198 rfl dX5_nearest_2 (by omega) (by omega) rfl (Or.inl rfl) rfl ?_
  exact Ft.ret
end C49
