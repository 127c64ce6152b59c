/-! HoleWhistle.freshen -/
section C46
variable {g : gT} {σ : sT} {l : Nat → Nat}
theorem CA.fcT {l' : Nat → Nat} {s : Int → Int} {f : Int} (h : CA σ l s f) (e : ∀ a, 18 ≤ a → a ≤ 22 → ln l' a = ln l a) : FCap l' (ln l' 18) := by
  obtain ⟨y1, y2, y3, y4, y5⟩ := h.fc
  exact ⟨rfl, by rw [e 19 (by decide) (by decide), e 18 (by decide) (by decide), y2], by rw [e 20 (by decide) (by decide), e 18 (by decide) (by decide), y3], by rw [e 21 (by decide) (by decide), e 18 (by decide) (by decide), y4], by rw [e 22 (by decide) (by decide), e 18 (by decide) (by decide), y5]⟩
theorem CA.ceT {l' : Nat → Nat} {s : Int → Int} {f : Int} (h : CA σ l s f) (e : ∀ a, 29 ≤ a → a ≤ 31 → ln l' a = ln l a) : CCap l' 24 (ln l' 29) := by
  obtain ⟨y1, y2, y3⟩ := h.ce
  exact ⟨rfl, by rw [e (24 + 6) (by decide) (by decide), e 29 (by decide) (by decide), y2], by rw [e (24 + 7) (by decide) (by decide), e 29 (by decide) (by decide), y3]⟩
theorem CA.coT {l' : Nat → Nat} {s : Int → Int} {f : Int} (h : CA σ l s f) (e : ∀ a, 37 ≤ a → a ≤ 39 → ln l' a = ln l a) : CCap l' 32 (ln l' 37) := by
  obtain ⟨y1, y2, y3⟩ := h.co
  exact ⟨rfl, by rw [e (32 + 6) (by decide) (by decide), e 37 (by decide) (by decide), y2], by rw [e (32 + 7) (by decide) (by decide), e 37 (by decide) (by decide), y3]⟩
/-- a way was found: what stood still stands -/
theorem CA.ways {τ : sT} {l' : Nat → Nat} {s : Int → Int} {f f' : Int} (h : CA σ l s f) (hf : ∀ a, 17 ≤ a → a ≤ 39 → τ a = σ a) (e : ∀ a, a < 44 → ln l' a = ln l a) (x1 : 2 ≤ ln l' 44 ∧ ln l' 44 ≤ 349920) (x2 : 2 ≤ ln l' 45 ∧ ln l' 45 ≤ 4374) (x3 : 2 ≤ ln l' 50 ∧ ln l' 50 ≤ 349920) (x4 : 2 ≤ ln l' 51 ∧ ln l' 51 ≤ 4374) (lv : 0 ≤ f' ∧ f' ≤ 3) (q1 : 1 ≤ f' → 1 ≤ f) (q2 : 2 ≤ f' → 2 ≤ f) (p3 : 3 ≤ f' → WyO τ l' 40 (wN s) (wH s) 0 (wCo s) (wTu s) (wTE s (s 4) (s 5)) (wRw s (wTE s (s 4) (s 5)) 0)) : CA τ l' s f' := by
  have e18 := e 18 (by decide)
  have e29 := e 29 (by decide)
  have e37 := e 37 (by decide)
  refine ⟨by rw [e18]; exact h.c1, h.fcT (fun a _ _ => e a (by omega)), fun p a0 a1 => ?_, h.ceT (fun a _ _ => e a (by omega)), by rw [e29]; exact h.e1, h.coT (fun a _ _ => e a (by omega)), by rw [e37]; exact h.e2, x1, x2, x3, x4, by rw [hf 17 (by decide) (by decide), e18]; exact h.cnt, lv, fun z => ?_, fun z => ?_, p3⟩
  · unfold FG1
    rw [hf 18 (by decide) (by decide), hf 19 (by decide) (by decide), hf 20 (by decide) (by decide)]
    exact h.fg p a0 (by rw [e18] at a1; exact a1)
  · unfold FPw
    rw [hf 17 (by decide) (by decide), hf 21 (by decide) (by decide), hf 22 (by decide) (by decide), e18]
    exact h.p1 (q1 z)
  · rw [e29]
    exact ⟨(h.p2 (q2 z)).1.frame (fun a a0 a1 => hf a (by omega) (by omega)), (h.p2 (q2 z)).2⟩
theorem grW_ln {B : Int} {s TE : Int → Int} {w : Nat} {b : Int} {l' : Nat → Nat} (ho : SOK B s) (hw : isWy w) (hA : 2 ≤ ln l (w + 4) ∧ ln l (w + 4) ≤ 349920) (hF : 2 ≤ ln l (w + 5) ∧ ln l (w + 5) ≤ 4374) (hL : LE2 (grW w s TE b l) l') : (∀ a, a ≠ w + 4 → a ≠ w + 5 → ln l' a = ln l a) ∧ (2 ≤ ln l' (w + 4) ∧ ln l' (w + 4) ≤ 349920) ∧ 2 ≤ ln l' (w + 5) ∧ ln l' (w + 5) ≤ 4374 := by
  have hbd := wRw_bd (TE := TE) (b := b) ho.h7 (wN s)
  have hn40 := ho.n40
  have hp := p3_le ho.h7
  have e : ∀ a, _ := ln_gr3 (l := l) (u := uU (wTu s) TE (wH s) (wN s) b (wN s)) (len := (wRw s TE b (wN s)).toNat) (N := 2 * 3 ^ wH s) hw (by omega) hA.2 (by omega)
  refine ⟨fun a h1 h2 => ?_, ?_, ?_⟩
  · rw [hL a]
    show ln (gr3 _ _ _ _ _) a = _
    rw [e a, if_neg h1, if_neg h2]
  · rw [hL (w + 4)]
    show 2 ≤ ln (gr3 _ _ _ _ _) (w + 4) ∧ ln (gr3 _ _ _ _ _) (w + 4) ≤ _
    rw [e (w + 4), if_pos rfl]
    split <;> omega
  · rw [hL (w + 5)]
    show 2 ≤ ln (gr3 _ _ _ _ _) (w + 5) ∧ ln (gr3 _ _ _ _ _) (w + 5) ≤ _
    rw [e (w + 5), if_neg (by omega), if_pos rfl]
    split <;> omega
abbrev wTe (s : Int → Int) : Int → Int := wTE s (s 4) (s 5)
theorem fresh3 {k n : Nat} {B lev : Int} {s : Int → Int} {Ψ : mO → sT → (Nat → Nat) → Prop} (hK : Kc σ l B s) (hlev : 0 ≤ lev ∧ lev ≤ 3) (h2 : 3 ≤ lev → 2 ≤ σ 0 15) (hb : 3 ≤ lev ∧ σ 0 15 < 3 → kW 40 s (wTe s) 0 l ≤ k ∧ nW 40 s (wTe s) 0 l ≤ n) (hΨ : ∀ τ l', Qf σ τ → Kc τ l' B s → τ 0 15 = (if 3 ≤ lev ∧ σ 0 15 < 3 then 3 else σ 0 15) → LE2 (if 3 ≤ lev ∧ σ 0 15 < 3 then grW 40 s (wTe s) 0 l else l) l' → Ψ (.inl none) τ l') : FW g zX5_freshen k n Ψ 79 [some (.ref 0), some (iv lev)] [] σ l := by
  have hlv := hK.ca.lv
  have ho := hK.ok
  refine g_iload1 dX5_freshen_79 ?_
  refine g_iconst dX5_freshen_80 ?_
  refine g_icmp_lt ⟨by omega, by omega⟩ ⟨by omega, by omega⟩ (tgt := 113) dX5_freshen_81 rfl (fun h81 => ?_) (fun h81 => ?_)
  · refine g_return rfl dX5_freshen_113 ?_
    have hn : ¬ (3 ≤ lev ∧ σ 0 15 < 3) := fun z => by omega
    refine fn_ret (hΨ σ l (Qf.refl σ) hK (by rw [if_neg hn]) (by rw [if_neg hn]; exact LE2.refl l))
  · refine g_aload0 dX5_freshen_84 ?_
    refine f_geti (J := 15) rfl (by decide) rfl rfl fl_X5_77 dX5_freshen_85 ?_
    refine g_iconst dX5_freshen_88 ?_
    refine g_icmp_ge ⟨by omega, by omega⟩ ⟨by omega, by omega⟩ (tgt := 113) dX5_freshen_89 rfl (fun h89 => ?_) (fun h89 => ?_)
    · refine g_return rfl dX5_freshen_113 ?_
      have hn : ¬ (3 ≤ lev ∧ σ 0 15 < 3) := fun z => by omega
      refine fn_ret (hΨ σ l (Qf.refl σ) hK (by rw [if_neg hn]) (by rw [if_neg hn]; exact LE2.refl l))
    · refine g_aload0 dX5_freshen_92 ?_
      refine f_getr (r := 40) rfl (by decide) rfl rfl fl_X5_70 dX5_freshen_93 ?_
      refine g_aload0 dX5_freshen_96 ?_
      refine f_getr (r := 1) rfl (by decide) rfl rfl fl_X5_10 dX5_freshen_97 ?_
      refine g_aload0 dX5_freshen_100 ?_
      refine f_getr (r := 24) rfl (by decide) rfl rfl fl_X5_60 dX5_freshen_101 ?_
      refine g_iconst dX5_freshen_104 ?_
      refine f_cV3m (find_s (w := 40) (o := 24) (b := 0) ho hK.st isWy40 isCh24 (hK.ca.p2 (h2 (by omega))).1 hK.ca.ce (hK.ca.p2 (h2 (by omega))).2 ⟨by decide, by decide⟩ hK.ca.a1) rfl (by decide) rfl oY_X4_find oI_X4_find lk_X5_328 rfl dX5_freshen_105 (hb (by omega)).1 (hb (by omega)).2 rfl (okFb_of rfl) (fun σ105 l105 h105 => ?_)
      obtain ⟨f1, f2, f3⟩ := h105
      refine g_aload0 dX5_freshen_108 ?_
      refine g_iconst dX5_freshen_109 ?_
      refine f_puti (J := 15) rfl (by decide) rfl rfl fl_X5_77 rfl (fun _ _ _ h => by cases h; rfl) dX5_freshen_110 ?_
      refine g_return rfl dX5_freshen_113 ?_
      have hn : 3 ≤ lev ∧ σ 0 15 < 3 := by omega
      have hg := grW_ln ho isWy40 hK.ca.a1 hK.ca.b1 f3
      refine fn_ret (hΨ _ l105 ⟨fun a a0 a1 => by rw [up_n a0, f1 a (by omega)], fun j hj => by rw [up_ne (fun z => hj z.2), f1 0 (by omega)]⟩ ⟨ho, hK.st.frame (by rw [up_n (by omega), f1 1 (by omega)]) (by rw [up_n (by omega), f1 2 (by omega)]) (by rw [up_n (by omega), f1 3 (by omega)]) (by rw [up_n (by omega), f1 4 (by omega)]), ?_⟩ (by rw [if_pos hn, up_eq]) (by rw [if_pos hn]; exact f3))
      rw [up_eq]
      refine hK.ca.ways (fun a a0 a1 => by rw [up_n (by omega), f1 a (by omega)]) (fun a ha => hg.1 a (by omega) (by omega)) hg.2.1 hg.2.2 (by rw [hg.1 50 (by omega) (by omega)]; exact hK.ca.a2) (by rw [hg.1 51 (by omega) (by omega)]; exact hK.ca.b2) (by decide) (fun _ => by omega) (fun _ => by omega) (fun _ => f2.frame (fun a a0 a1 => by rw [up_n (by omega)]) rfl)
theorem fresh2 {k n : Nat} {B lev : Int} {s : Int → Int} {Ψ : mO → sT → (Nat → Nat) → Prop} (hK : Kc σ l B s) (hlev : 0 ≤ lev ∧ lev ≤ 3) (h2 : 2 ≤ lev → 1 ≤ σ 0 15) (hb : 2 ≤ lev ∧ σ 0 15 < 2 → (if ln l 29 < 2 * 3 ^ wH s then 3 else 0) ≤ k ∧ (if ln l 29 < 2 * 3 ^ wH s then 3 * (2 * 3 ^ wH s) else 0) ≤ n)
    (hk : ∀ τ l' k' n', Qf σ τ → Kc τ l' B s → τ 0 15 = (if 2 ≤ lev ∧ σ 0 15 < 2 then 2 else σ 0 15) → LE2 (if 2 ≤ lev ∧ σ 0 15 < 2 then gr2 24 (2 * 3 ^ wH s) l else l) l' → k' = (if 2 ≤ lev ∧ σ 0 15 < 2 then k - (if ln l 29 < 2 * 3 ^ wH s then 3 else 0) else k) → n' = (if 2 ≤ lev ∧ σ 0 15 < 2 then n - (if ln l 29 < 2 * 3 ^ wH s then 3 * (2 * 3 ^ wH s) else 0) else n) → FW g zX5_freshen k' n' Ψ 79 [some (.ref 0), some (iv lev)] [] τ l') : FW g zX5_freshen k n Ψ 29 [some (.ref 0), some (iv lev)] [] σ l := by
  have hlv := hK.ca.lv
  have ho := hK.ok
  have hp := p3_le ho.h7
  refine g_iload1 dX5_freshen_29 ?_
  refine g_iconst dX5_freshen_30 ?_
  refine g_icmp_lt ⟨by omega, by omega⟩ ⟨by omega, by omega⟩ (tgt := 79) dX5_freshen_31 rfl (fun h31 => ?_) (fun h31 => ?_)
  · have hn : ¬ (2 ≤ lev ∧ σ 0 15 < 2) := fun z => by omega
    refine hk σ l k n (Qf.refl σ) hK (by rw [if_neg hn]) (by rw [if_neg hn]; exact LE2.refl l) (by rw [if_neg hn]) (by rw [if_neg hn])
  · refine g_aload0 dX5_freshen_34 ?_
    refine f_geti (J := 15) rfl (by decide) rfl rfl fl_X5_77 dX5_freshen_35 ?_
    refine g_iconst dX5_freshen_38 ?_
    refine g_icmp_ge ⟨by omega, by omega⟩ ⟨by omega, by omega⟩ (tgt := 79) dX5_freshen_39 rfl (fun h39 => ?_) (fun h39 => ?_)
    · have hn : ¬ (2 ≤ lev ∧ σ 0 15 < 2) := fun z => by omega
      refine hk σ l k n (Qf.refl σ) hK (by rw [if_neg hn]) (by rw [if_neg hn]; exact LE2.refl l) (by rw [if_neg hn]) (by rw [if_neg hn])
    · refine g_aload0 dX5_freshen_42 ?_
      refine f_getr (r := 24) rfl (by decide) rfl rfl fl_X5_60 dX5_freshen_43 ?_
      refine g_aload0 dX5_freshen_46 ?_
      refine f_getr (r := 17) rfl (by decide) rfl rfl fl_X5_53 dX5_freshen_47 ?_
      refine g_aload0 dX5_freshen_50 ?_
      refine f_getr (r := 1) rfl (by decide) rfl rfl fl_X5_10 dX5_freshen_51 ?_
      refine f_geti (J := 2) rfl (by decide) rfl rfl fl_X5_120 dX5_freshen_54 ?_
      rw [hK.st.f2]
      refine g_aload0 dX5_freshen_57 ?_
      refine f_getr (r := 1) rfl (by decide) rfl rfl fl_X5_10 dX5_freshen_58 ?_
      refine f_geti (J := 3) rfl (by decide) rfl rfl fl_X5_126 dX5_freshen_61 ?_
      rw [hK.st.f3]
      refine g_aload0 dX5_freshen_64 ?_
      refine f_getr (r := 1) rfl (by decide) rfl rfl fl_X5_10 dX5_freshen_65 ?_
      refine f_geti (J := 4) rfl (by decide) rfl rfl fl_X5_129 dX5_freshen_68 ?_
      rw [hK.st.f4]
      refine f_cV4m (choose_s (o := 24) (hv := s 4) (cr := s 5) ho isCh24 (hK.ca.p1 (h2 (by omega))).1 hK.ca.fg hK.ca.fc (hK.ca.p1 (h2 (by omega))).2 hK.ca.ce (by have := ho.halves; omega) (by have := ho.crosses; omega)) rfl (by decide) rfl oY_X0_choose oI_X0_choose lk_X5_272 rfl dX5_freshen_71 (hb (by omega)).1 (hb (by omega)).2 rfl (okFb_of rfl) (fun σ71 l71 h71 => ?_)
      obtain ⟨f1, f2, f3, f4⟩ := h71
      refine g_aload0 dX5_freshen_74 ?_
      refine g_iconst dX5_freshen_75 ?_
      refine f_puti (J := 15) rfl (by decide) rfl rfl fl_X5_77 rfl (fun _ _ _ h => by cases h; rfl) dX5_freshen_76 ?_
      have hn : 2 ≤ lev ∧ σ 0 15 < 2 := by omega
      have hg : ∀ a, ln l71 a = if 24 + 5 ≤ a ∧ a ≤ 24 + 7 then max (ln l a) (2 * 3 ^ wH s) else ln l a := fun a => by rw [f4 a, ln_gr2 isCh24 (by omega)]
      have hg29 := hg 29
      rw [if_pos ⟨by decide, by decide⟩] at hg29
      have he1 := hK.ca.e1
      have h18 := (hK.ca.p1 (h2 (by omega))).2
      have hg18 : ln l71 18 = ln l 18 := by rw [hg 18, if_neg (by decide)]
      refine hk _ l71 _ _ ⟨fun a a0 a1 => by rw [up_n a0, f1 a (by omega)], fun j hj => by rw [up_ne (fun z => hj z.2), f1 0 (by omega)]⟩ ⟨ho, hK.st.frame (by rw [up_n (by omega), f1 1 (by omega)]) (by rw [up_n (by omega), f1 2 (by omega)]) (by rw [up_n (by omega), f1 3 (by omega)]) (by rw [up_n (by omega), f1 4 (by omega)]), ?_⟩ (by rw [if_pos hn, up_eq]) (by rw [if_pos hn]; exact f4) (by rw [if_pos hn]) (by rw [if_pos hn])
      rw [up_eq]
      have hf : ∀ a, a < 25 ∨ 31 < a → a ≠ 0 → up σ71 0 15 2 a = σ a := fun a ha a0 => by rw [up_n a0, f1 a (by omega)]
      refine ⟨by rw [hg18]; exact hK.ca.c1, hK.ca.fcT (fun a _ _ => by rw [hg a, if_neg (by omega)]), fun p a0 a1 => ?_, f3, by show 2 ≤ ln l71 29 ∧ ln l71 29 ≤ 4374; rw [hg29]; omega, hK.ca.coT (fun a _ _ => by rw [hg a, if_neg (by omega)]), by rw [hg 37, if_neg (by omega)]; exact hK.ca.e2, by rw [hg 44, if_neg (by omega)]; exact hK.ca.a1, by rw [hg 45, if_neg (by omega)]; exact hK.ca.b1, by rw [hg 50, if_neg (by omega)]; exact hK.ca.a2, by rw [hg 51, if_neg (by omega)]; exact hK.ca.b2, by rw [hf 17 (by omega) (by omega), hg18]; exact hK.ca.cnt, by decide, fun _ => ?_, fun _ => ⟨f2.frame (fun a a0 a1 => by rw [up_n (by omega)]), by show 2 * 3 ^ wH s ≤ ln l71 29; rw [hg29]; omega⟩, fun z => absurd z (by decide)⟩
      · unfold FG1
        rw [hf 18 (by omega) (by omega), hf 19 (by omega) (by omega), hf 20 (by omega) (by omega)]
        exact hK.ca.fg p a0 (by rw [hg18] at a1; exact a1)
      · unfold FPw
        rw [hf 17 (by omega) (by omega), hf 21 (by omega) (by omega), hf 22 (by omega) (by omega), hg18]
        exact hK.ca.p1 (h2 (by omega))
theorem fresh1 {k n : Nat} {B lev : Int} {s : Int → Int} {Ψ : mO → sT → (Nat → Nat) → Prop} (hK : Kc σ l B s) (hlev : 0 ≤ lev ∧ lev ≤ 3) (hb : 1 ≤ lev ∧ σ 0 15 < 1 → (if ln l 18 < 3 ^ wH s then 5 else 0) ≤ k ∧ (if ln l 18 < 3 ^ wH s then 5 * 3 ^ wH s else 0) ≤ n)
    (hk : ∀ τ l' k' n', Qf σ τ → Kc τ l' B s → τ 0 15 = (if 1 ≤ lev ∧ σ 0 15 < 1 then 1 else σ 0 15) → LE2 (if 1 ≤ lev ∧ σ 0 15 < 1 then gr1 (3 ^ wH s) l else l) l' → k' = (if 1 ≤ lev ∧ σ 0 15 < 1 then k - (if ln l 18 < 3 ^ wH s then 5 else 0) else k) → n' = (if 1 ≤ lev ∧ σ 0 15 < 1 then n - (if ln l 18 < 3 ^ wH s then 5 * 3 ^ wH s else 0) else n) → FW g zX5_freshen k' n' Ψ 29 [some (.ref 0), some (iv lev)] [] τ l') : FW g zX5_freshen k n Ψ 0 [some (.ref 0), some (iv lev)] [] σ l := by
  have hlv := hK.ca.lv
  have ho := hK.ok
  have hp := p3_le ho.h7
  have hp0 := p3_pos (wH s)
  refine g_iload1 dX5_freshen_0 ?_
  refine g_iconst dX5_freshen_1 ?_
  refine g_icmp_lt ⟨by omega, by omega⟩ ⟨by omega, by omega⟩ (tgt := 29) dX5_freshen_2 rfl (fun h2 => ?_) (fun h2 => ?_)
  · have hn : ¬ (1 ≤ lev ∧ σ 0 15 < 1) := fun z => by omega
    refine hk σ l k n (Qf.refl σ) hK (by rw [if_neg hn]) (by rw [if_neg hn]; exact LE2.refl l) (by rw [if_neg hn]) (by rw [if_neg hn])
  · refine g_aload0 dX5_freshen_5 ?_
    refine f_geti (J := 15) rfl (by decide) rfl rfl fl_X5_77 dX5_freshen_6 ?_
    refine g_iconst dX5_freshen_9 ?_
    refine g_icmp_ge ⟨by omega, by omega⟩ ⟨by omega, by omega⟩ (tgt := 29) dX5_freshen_10 rfl (fun h10 => ?_) (fun h10 => ?_)
    · have hn : ¬ (1 ≤ lev ∧ σ 0 15 < 1) := fun z => by omega
      refine hk σ l k n (Qf.refl σ) hK (by rw [if_neg hn]) (by rw [if_neg hn]; exact LE2.refl l) (by rw [if_neg hn]) (by rw [if_neg hn])
    · refine g_aload0 dX5_freshen_13 ?_
      refine f_getr (r := 17) rfl (by decide) rfl rfl fl_X5_53 dX5_freshen_14 ?_
      refine g_aload0 dX5_freshen_17 ?_
      refine f_getr (r := 1) rfl (by decide) rfl rfl fl_X5_10 dX5_freshen_18 ?_
      refine f_cV1m (reckon_s ho hK.st hK.ca) rfl (by decide) rfl oY_X1_reckon oI_X1_reckon lk_X5_325 rfl dX5_freshen_21 (hb (by omega)).1 (hb (by omega)).2 rfl (okFb_of rfl) (fun σ21 l21 h21 => ?_)
      obtain ⟨f1, f2, f3, f4, f5⟩ := h21
      refine g_aload0 dX5_freshen_24 ?_
      refine g_iconst dX5_freshen_25 ?_
      refine f_puti (J := 15) rfl (by decide) rfl rfl fl_X5_77 rfl (fun _ _ _ h => by cases h; rfl) dX5_freshen_26 ?_
      have hn : 1 ≤ lev ∧ σ 0 15 < 1 := by omega
      have hg : ∀ a, ln l21 a = if 18 ≤ a ∧ a ≤ 22 then max (ln l a) (3 ^ wH s) else ln l a := fun a => by rw [f5 a, ln_gr1 (by omega)]
      have hg18 := hg 18
      rw [if_pos ⟨by decide, by decide⟩] at hg18
      have hc1 := hK.ca.c1
      refine hk _ l21 _ _ ⟨fun a a0 a1 => by rw [up_n a0, f1 a (by omega)], fun j hj => by rw [up_ne (fun z => hj z.2), f1 0 (by omega)]⟩ ⟨ho, hK.st.frame (by rw [up_n (by omega), f1 1 (by omega)]) (by rw [up_n (by omega), f1 2 (by omega)]) (by rw [up_n (by omega), f1 3 (by omega)]) (by rw [up_n (by omega), f1 4 (by omega)]), ?_⟩ (by rw [if_pos hn, up_eq]) (by rw [if_pos hn]; exact f5) (by rw [if_pos hn]) (by rw [if_pos hn])
      rw [up_eq]
      have hf : ∀ a, a ≠ 0 → up σ21 0 15 1 a = σ21 a := fun a a0 => up_n a0
      refine ⟨by rw [hg18]; omega, f4, fun p a0 a1 => ?_, hK.ca.ceT (fun a _ _ => by rw [hg a, if_neg (by omega)]), by rw [hg 29, if_neg (by omega)]; exact hK.ca.e1, hK.ca.coT (fun a _ _ => by rw [hg a, if_neg (by omega)]), by rw [hg 37, if_neg (by omega)]; exact hK.ca.e2, by rw [hg 44, if_neg (by omega)]; exact hK.ca.a1, by rw [hg 45, if_neg (by omega)]; exact hK.ca.b1, by rw [hg 50, if_neg (by omega)]; exact hK.ca.a2, by rw [hg 51, if_neg (by omega)]; exact hK.ca.b2, by rw [hf 17 (by omega), f2.1, hg18]; omega, by decide, fun _ => ?_, fun z => absurd z (by decide), fun z => absurd z (by decide)⟩
      · unfold FG1
        rw [hf 18 (by omega), hf 19 (by omega), hf 20 (by omega)]
        exact f3 p a0 a1
      · unfold FPw
        rw [hf 17 (by omega), hf 21 (by omega), hf 22 (by omega)]
        exact ⟨f2, by rw [hg18]; omega⟩
def fl1 (lev f : Int) (s : Int → Int) (l : Nat → Nat) : Nat → Nat := if 1 ≤ lev ∧ f < 1 then gr1 (3 ^ wH s) l else l
def fl2 (lev f : Int) (s : Int → Int) (l : Nat → Nat) : Nat → Nat := if 2 ≤ lev ∧ f < 2 then gr2 24 (2 * 3 ^ wH s) l else l
def fl3 (lev f : Int) (s : Int → Int) (l : Nat → Nat) : Nat → Nat := if 3 ≤ lev ∧ f < 3 then grW 40 s (wTe s) 0 l else l
/-- the lengths behind freshen -/
def flL (lev f : Int) (s : Int → Int) (l : Nat → Nat) : Nat → Nat := fl3 lev f s (fl2 lev f s (fl1 lev f s l))
theorem gr2_LE {o N : Nat} {l' : Nat → Nat} (hs : isCh o) (hN : N ≤ 400000) (h : LE2 l l') : LE2 (gr2 o N l) (gr2 o N l') := fun a => by rw [ln_gr2 hs hN, ln_gr2 hs hN, h a]
theorem grW_LE {B : Int} {s TE : Int → Int} {w : Nat} {b : Int} {l' : Nat → Nat} (ho : SOK B s) (hw : isWy w) (hA : ln l (w + 4) ≤ 349920) (h : LE2 l l') : LE2 (grW w s TE b l) (grW w s TE b l') := fun a => by
  have hbd := wRw_bd (TE := TE) (b := b) ho.h7 (wN s)
  have hn40 := ho.n40
  have hp := p3_le ho.h7
  unfold grW
  rw [ln_gr3 hw (by omega) (by rw [h]; exact hA) (by omega), ln_gr3 hw (by omega) hA (by omega), h a]
theorem freshen_okX {B lev : Int} {s : Int → Int} (hK : Kc σ l B s) (hlev : 0 ≤ lev ∧ lev ≤ 3) : Gr l (flL lev (σ 0 15) s l) 0 0 ∧ (∀ a, (31 < a ∧ a < 44) ∨ 45 < a → ln (flL lev (σ 0 15) s l) a = ln l a) ∧ Fu g zX5_freshen (pcL l - pcL (flL lev (σ 0 15) s l)) (psL l - psL (flL lev (σ 0 15) s l)) [.ref 0, iv lev] σ l (fun τ l' => Qf σ τ ∧ Kc τ l' B s ∧ τ 0 15 = max (σ 0 15) lev ∧ LE2 (flL lev (σ 0 15) s l) l') := by
  have ho := hK.ok
  have hp := p3_le ho.h7
  have hlv := hK.ca.lv
  have e1 : ∀ a, a < 18 ∨ 22 < a → ln (fl1 lev (σ 0 15) s l) a = ln l a := fun a ha => by
    unfold fl1
    split
    · rw [ln_gr1 (by omega), if_neg (by omega)]
    · rfl
  have e2 : ∀ a, a < 29 ∨ 31 < a → ln (fl2 lev (σ 0 15) s (fl1 lev (σ 0 15) s l)) a = ln (fl1 lev (σ 0 15) s l) a := fun a ha => by
    unfold fl2
    split
    · rw [ln_gr2 isCh24 (by omega), if_neg (by omega)]
    · rfl
  have hA2 : 2 ≤ ln (fl2 lev (σ 0 15) s (fl1 lev (σ 0 15) s l)) (40 + 4) ∧ ln (fl2 lev (σ 0 15) s (fl1 lev (σ 0 15) s l)) (40 + 4) ≤ 349920 := by
    rw [e2 (40 + 4) (by decide), e1 (40 + 4) (by decide)]
    exact hK.ca.a1
  have g1 : Gr l (fl1 lev (σ 0 15) s l) (if 1 ≤ lev ∧ σ 0 15 < 1 then (if ln l 18 < 3 ^ wH s then 5 else 0) else 0) (if 1 ≤ lev ∧ σ 0 15 < 1 then (if ln l 18 < 3 ^ wH s then 5 * 3 ^ wH s else 0) else 0) := by
    unfold fl1
    by_cases h : 1 ≤ lev ∧ σ 0 15 < 1
    · rw [if_pos h, if_pos h, if_pos h]; exact Gr1 ho.h7
    · rw [if_neg h, if_neg h, if_neg h]; exact Gr.refl l
  have g2 : Gr (fl1 lev (σ 0 15) s l) (fl2 lev (σ 0 15) s (fl1 lev (σ 0 15) s l)) (if 2 ≤ lev ∧ σ 0 15 < 2 then (if ln l 29 < 2 * 3 ^ wH s then 3 else 0) else 0) (if 2 ≤ lev ∧ σ 0 15 < 2 then (if ln l 29 < 2 * 3 ^ wH s then 3 * (2 * 3 ^ wH s) else 0) else 0) := by
    unfold fl2
    by_cases h : 2 ≤ lev ∧ σ 0 15 < 2
    · rw [if_pos h, if_pos h, if_pos h, ← e1 29 (by decide)]; exact Gr2 isCh24 ho.h7
    · rw [if_neg h, if_neg h, if_neg h]; exact Gr.refl _
  have g3 : Gr (fl2 lev (σ 0 15) s (fl1 lev (σ 0 15) s l)) (flL lev (σ 0 15) s l) (if 3 ≤ lev ∧ σ 0 15 < 3 then kW 40 s (wTe s) 0 (fl2 lev (σ 0 15) s (fl1 lev (σ 0 15) s l)) else 0) (if 3 ≤ lev ∧ σ 0 15 < 3 then nW 40 s (wTe s) 0 (fl2 lev (σ 0 15) s (fl1 lev (σ 0 15) s l)) else 0) := by
    unfold flL
    generalize fl2 lev (σ 0 15) s (fl1 lev (σ 0 15) s l) = M at *
    unfold fl3
    by_cases h : 3 ≤ lev ∧ σ 0 15 < 3
    · rw [if_pos h, if_pos h, if_pos h]; exact GrW ho isWy40 hA2
    · rw [if_neg h, if_neg h, if_neg h]; exact Gr.refl _
  have hB2 : 2 ≤ ln (fl2 lev (σ 0 15) s (fl1 lev (σ 0 15) s l)) (40 + 5) ∧ ln (fl2 lev (σ 0 15) s (fl1 lev (σ 0 15) s l)) (40 + 5) ≤ 4374 := by
    rw [e2 (40 + 5) (by decide), e1 (40 + 5) (by decide)]
    exact hK.ca.b1
  have e3 : ∀ a, a ≠ 44 → a ≠ 45 → ln (flL lev (σ 0 15) s l) a = ln (fl2 lev (σ 0 15) s (fl1 lev (σ 0 15) s l)) a := fun a h1 h2 => by
    unfold flL fl3
    split
    · exact (grW_ln (w := 40) ho isWy40 hA2 hB2 (LE2.refl _)).1 a h1 h2
    · rfl
  refine ⟨⟨by have := g1.1; have := g2.1; have := g3.1; omega, by have := g1.2; have := g2.2; have := g3.2; omega⟩, fun a ha => by rw [e3 a (by omega) (by omega), e2 a (by omega), e1 a (by omega)], ?_⟩
  obtain ⟨g11, g12⟩ := g1
  obtain ⟨g21, g22⟩ := g2
  obtain ⟨g31, g32⟩ := g3
  refine Fn.of [some (.ref 0), some (iv lev)] rfl (by decide) (Nat.le_of_ble_eq_true rfl) rfl ?_
  refine fresh1 hK hlev (fun z => by rw [if_pos z] at g11 g12; omega) (fun τ1 l1 k1 n1 q1 K1 v1 L1 hk1 hn1 => ?_)
  have hv1 : 2 ≤ lev ∧ τ1 0 15 < 2 ↔ 2 ≤ lev ∧ σ 0 15 < 2 := by rw [v1]; split <;> omega
  have l29 : ln l1 29 = ln l 29 := by rw [L1 29]; exact e1 29 (by decide)
  refine fresh2 K1 hlev (fun z => by rw [v1]; split <;> omega) (fun z => by
    rw [hv1] at z
    rw [l29]
    rw [if_pos z] at g21 g22
    rw [hk1, hn1]
    by_cases h : 1 ≤ lev ∧ σ 0 15 < 1
    · rw [if_pos h] at g11 g12
      rw [if_pos h, if_pos h]
      omega
    · rw [if_neg h] at g11 g12
      rw [if_neg h, if_neg h]
      omega) (fun τ2 l2 k2 n2 q2 K2 v2 L2 hk2 hn2 => ?_)
  have hv2 : 3 ≤ lev ∧ τ2 0 15 < 3 ↔ 3 ≤ lev ∧ σ 0 15 < 3 := by rw [v2, v1]; split <;> split <;> omega
  have hL2 : LE2 (fl2 lev (σ 0 15) s (fl1 lev (σ 0 15) s l)) l2 := by
    refine LE2.trans ?_ L2
    unfold fl2
    by_cases h : 2 ≤ lev ∧ σ 0 15 < 2
    · rw [if_pos h, if_pos (hv1.mpr h)]
      exact gr2_LE isCh24 (by omega) L1
    · rw [if_neg h, if_neg (fun z => h (hv1.mp z))]
      exact L1
  have hkW : kW 40 s (wTe s) 0 l2 = kW 40 s (wTe s) 0 (fl2 lev (σ 0 15) s (fl1 lev (σ 0 15) s l)) ∧ nW 40 s (wTe s) 0 l2 = nW 40 s (wTe s) 0 (fl2 lev (σ 0 15) s (fl1 lev (σ 0 15) s l)) := by
    unfold kW nW
    rw [hL2 (40 + 4), hL2 (40 + 5)]
    exact ⟨rfl, rfl⟩
  refine fresh3 K2 hlev (fun z => by rw [v2, v1]; split <;> (try split) <;> omega) (fun z => by
    rw [hv2] at z
    rw [hkW.1, hkW.2]
    rw [if_pos z] at g31 g32
    rw [hk2, hn2, hk1, hn1, l29]
    by_cases h : 1 ≤ lev ∧ σ 0 15 < 1
    · rw [if_pos h] at g11 g12
      rw [if_pos h, if_pos h]
      by_cases h3 : 2 ≤ lev ∧ σ 0 15 < 2
      · rw [if_pos h3] at g21 g22
        rw [if_pos (hv1.mpr h3), if_pos (hv1.mpr h3)]
        omega
      · rw [if_neg h3] at g21 g22
        rw [if_neg (fun z => h3 (hv1.mp z)), if_neg (fun z => h3 (hv1.mp z))]
        omega
    · rw [if_neg h] at g11 g12
      rw [if_neg h, if_neg h]
      by_cases h3 : 2 ≤ lev ∧ σ 0 15 < 2
      · rw [if_pos h3] at g21 g22
        rw [if_pos (hv1.mpr h3), if_pos (hv1.mpr h3)]
        omega
      · rw [if_neg h3] at g21 g22
        rw [if_neg (fun z => h3 (hv1.mp z)), if_neg (fun z => h3 (hv1.mp z))]
        omega) (fun τ3 l3 q3 K3 v3 L3 => ?_)
  have w1 : τ1 0 15 = max (σ 0 15) (min lev 1) := by rw [v1]; split <;> omega
  have w2 : τ2 0 15 = max (τ1 0 15) (min lev 2) := by rw [v2]; split <;> omega
  have w3 : τ3 0 15 = max (τ2 0 15) (min lev 3) := by rw [v3]; split <;> omega
  refine ⟨rfl, (q1.trans q2).trans q3, K3, by omega, ?_⟩
  refine LE2.trans ?_ L3
  unfold flL
  generalize fl2 lev (σ 0 15) s (fl1 lev (σ 0 15) s l) = M at *
  unfold fl3
  by_cases h : 3 ≤ lev ∧ σ 0 15 < 3
  · rw [if_pos h, if_pos (hv2.mpr h)]
    exact grW_LE ho isWy40 hA2.2 hL2
  · rw [if_neg h, if_neg (fun z => h (hv2.mp z))]
    exact hL2
theorem freshen_okL {B lev : Int} {s : Int → Int} (hK : Kc σ l B s) (hlev : 0 ≤ lev ∧ lev ≤ 3) : ∃ L, Gr l L 0 0 ∧ (∀ a, (31 < a ∧ a < 44) ∨ 45 < a → ln L a = ln l a) ∧ Fu g zX5_freshen (pcL l - pcL L) (psL l - psL L) [.ref 0, iv lev] σ l (fun τ l' => Qf σ τ ∧ Kc τ l' B s ∧ lev ≤ τ 0 15 ∧ LE2 L l') := by
  obtain ⟨h1, h2, h3⟩ := freshen_okX (g := g) hK hlev
  exact ⟨_, h1, h2, Fn.mono h3 (fun o τ l' ⟨e, a, b, c, d⟩ => ⟨e, a, b, by rw [c]; omega, d⟩)⟩
theorem flL_e {B lev f : Int} {s : Int → Int} (ho : SOK B s) : (∀ a, a < 18 ∨ 22 < a → ln (fl1 lev f s l) a = ln l a) ∧ (∀ a, a < 29 ∨ 31 < a → ln (fl2 lev f s (fl1 lev f s l)) a = ln (fl1 lev f s l) a) := by
  have hp := p3_le ho.h7
  refine ⟨fun a ha => ?_, fun a ha => ?_⟩
  · unfold fl1
    split
    · rw [ln_gr1 (by omega), if_neg (by omega)]
    · rfl
  · unfold fl2
    split
    · rw [ln_gr2 isCh24 (by omega), if_neg (by omega)]
    · rfl
theorem flL_Gr {B lev f : Int} {s : Int → Int} (ho : SOK B s) (hA : 2 ≤ ln l 44 ∧ ln l 44 ≤ 349920) : Gr l (flL lev f s l) 0 0 := by
  obtain ⟨e1, e2⟩ := flL_e (l := l) (lev := lev) (f := f) ho
  have hA2 : 2 ≤ ln (fl2 lev f s (fl1 lev f s l)) (40 + 4) ∧ ln (fl2 lev f s (fl1 lev f s l)) (40 + 4) ≤ 349920 := by
    rw [e2 (40 + 4) (by decide), e1 (40 + 4) (by decide)]
    exact hA
  have g1 : Gr l (fl1 lev f s l) 0 0 := by
    unfold fl1
    split
    · have h := Gr1 (l := l) ho.h7
      exact ⟨Nat.le_trans (Nat.le_add_right _ _) h.1, Nat.le_trans (Nat.le_add_right _ _) h.2⟩
    · exact Gr.refl l
  have g2 : Gr (fl1 lev f s l) (fl2 lev f s (fl1 lev f s l)) 0 0 := by
    unfold fl2
    split
    · have h := Gr2 (l := fl1 lev f s l) isCh24 ho.h7
      exact ⟨Nat.le_trans (Nat.le_add_right _ _) h.1, Nat.le_trans (Nat.le_add_right _ _) h.2⟩
    · exact Gr.refl _
  have g3 : Gr (fl2 lev f s (fl1 lev f s l)) (flL lev f s l) 0 0 := by
    unfold flL
    generalize fl2 lev f s (fl1 lev f s l) = M at *
    unfold fl3
    split
    · have h := GrW (w := 40) (TE := wTe s) (b := 0) ho isWy40 hA2
      exact ⟨Nat.le_trans (Nat.le_add_right _ _) h.1, Nat.le_trans (Nat.le_add_right _ _) h.2⟩
    · exact Gr.refl _
  exact ⟨Nat.le_trans g3.1 (Nat.le_trans g2.1 g1.1), Nat.le_trans g3.2 (Nat.le_trans g2.2 g1.2)⟩
theorem flL_LE {B lev f : Int} {s : Int → Int} {l' : Nat → Nat} (ho : SOK B s) (hA : ln l 44 ≤ 349920) (h : LE2 l l') : LE2 (flL lev f s l) (flL lev f s l') := by
  have hp := p3_le ho.h7
  obtain ⟨e1, e2⟩ := flL_e (l := l) (lev := lev) (f := f) ho
  have h1 : LE2 (fl1 lev f s l) (fl1 lev f s l') := by
    unfold fl1
    split
    · exact fun a => by rw [ln_gr1 (by omega), ln_gr1 (by omega), h a]
    · exact h
  have h2 : LE2 (fl2 lev f s (fl1 lev f s l)) (fl2 lev f s (fl1 lev f s l')) := by
    unfold fl2
    split
    · exact gr2_LE isCh24 (by omega) h1
    · exact h1
  have hA2 : ln (fl2 lev f s (fl1 lev f s l)) (40 + 4) ≤ 349920 := by
    rw [e2 (40 + 4) (by decide), e1 (40 + 4) (by decide)]
    exact hA
  unfold flL
  generalize fl2 lev f s (fl1 lev f s l) = M at *
  generalize fl2 lev f s (fl1 lev f s l') = M' at *
  unfold fl3
  split
  · exact grW_LE ho isWy40 hA2 h2
  · exact h2
theorem freshen_ok {B lev : Int} {s : Int → Int} (hK : Kc σ l B s) (hlev : 0 ≤ lev ∧ lev ≤ 3) : ∃ L, Gr l L 0 0 ∧ Fu g zX5_freshen (pcL l - pcL L) (psL l - psL L) [.ref 0, iv lev] σ l (fun τ l' => Qf σ τ ∧ Kc τ l' B s ∧ lev ≤ τ 0 15 ∧ LE2 L l') := by
  obtain ⟨L, h1, _, h2⟩ := freshen_okL (g := g) hK hlev
  exact ⟨L, h1, h2⟩
end C46
