/-! HoleWhistle's predictions -/
section C53
variable {g : gT} {σ : sT} {l : Nat → Nat}
theorem bud1 {a b c : Nat} (h : c ≤ b) : a - b ≤ a - c := Nat.sub_le_sub_left h a
theorem bud2 {a b c : Nat} (h : c ≤ b) (h2 : b ≤ a) : b - c ≤ a - c - (a - b) := by omega
theorem bud3 {a b d k : Nat} (h : a - d ≤ k) (h1 : b ≤ a) (h2 : d ≤ b) : b - d ≤ k - (a - b) := by omega
theorem bud4 {l L G E x : Nat} (h : G + x ≤ L) (h2 : E ≤ G) (h1 : L ≤ l) : x ≤ l - E - (l - L) := by omega
theorem bud5 {l L G E x : Nat} (h : G + x ≤ L) (h2 : E ≤ G) (h1 : L ≤ l) : G - E ≤ l - E - (l - L) - x := by omega
theorem bud6 {a b x : Nat} (h : b + x ≤ a) : x ≤ a - b := by omega
theorem Gr.w {L : Nat → Nat} {k n : Nat} (h : Gr l L k n) : Gr l L 0 0 := ⟨Nat.le_trans (Nat.le_add_right _ _) h.1, Nat.le_trans (Nat.le_add_right _ _) h.2⟩
theorem Gr.tr0 {L M : Nat → Nat} (h1 : Gr l L 0 0) (h2 : Gr L M 0 0) : Gr l M 0 0 := ⟨Nat.le_trans h2.1 h1.1, Nat.le_trans h2.2 h1.2⟩
/-- what the easiest way costs, some semitones higher, with other limits -/
def wOc (s TE : Int → Int) (b : Int) : Int := if wLk s TE b 0 ≠ -1 then -1 else wyT (wTu s) (wA (wCo s) (wE TE (wTu s) (wH s) b) (wTu s) (wN s)) (wCo s) (wE TE (wTu s) (wH s) b) (wN s)
theorem wOc_rng {B : Int} {s TE : Int → Int} {b : Int} (ho : SOK B s) : -1 ≤ wOc s TE b ∧ wOc s TE b ≤ 2880 := by
  have h1 := wyT_rng (tu := wTu s) (AH := wA (wCo s) (wE TE (wTu s) (wH s) b) (wTu s) (wN s)) (E := wE TE (wTu s) (wH s) b) (wCo_rng ho) (wN s)
  have := ho.n40
  unfold wOc
  split <;> omega
def oL (s TE : Int → Int) (b : Int) (l : Nat → Nat) : Nat → Nat := if wLk s TE b 0 ≠ -1 then l else grW 46 s TE b l
theorem oL_Gr {B : Int} {s TE : Int → Int} {b : Int} (ho : SOK B s) (hA : 2 ≤ ln l 50 ∧ ln l 50 ≤ 349920) : Gr l (oL s TE b l) 0 0 := by
  unfold oL
  split
  · exact Gr.refl l
  · have h := GrW (w := 46) (TE := TE) (b := b) ho isWy46 hA
    exact ⟨by have := h.1; omega, by have := h.2; omega⟩
theorem oL_ln {B : Int} {s TE : Int → Int} {b : Int} {l' : Nat → Nat} (ho : SOK B s) (hA : 2 ≤ ln l 50 ∧ ln l 50 ≤ 349920) (hF : 2 ≤ ln l 51 ∧ ln l 51 ≤ 4374) (hL : LE2 (oL s TE b l) l') : (∀ a, a ≠ 50 → a ≠ 51 → ln l' a = ln l a) ∧ (2 ≤ ln l' 50 ∧ ln l' 50 ≤ 349920) ∧ 2 ≤ ln l' 51 ∧ ln l' 51 ≤ 4374 := by
  unfold oL at hL
  split at hL
  · exact ⟨fun a _ _ => hL a, by rw [hL 50]; exact hA, by rw [hL 51]; exact hF⟩
  · exact grW_ln (w := 46) ho isWy46 hA hF hL
theorem oL_LE {B : Int} {s TE : Int → Int} {b : Int} {l' : Nat → Nat} (ho : SOK B s) (hA : ln l 50 ≤ 349920) (h : LE2 l l') : LE2 (oL s TE b l) (oL s TE b l') := by
  unfold oL
  split
  · exact h
  · exact grW_LE (w := 46) ho isWy46 hA h
theorem Kc.ot {τ : sT} {l' : Nat → Nat} {B : Int} {s TE : Int → Int} {b : Int} (h : Kc σ l B s) (hf : ∀ a, a < 46 ∨ 51 < a → τ a = σ a) (hL : LE2 (oL s TE b l) l') : Kc τ l' B s := by
  have hg := oL_ln h.ok h.ca.a2 h.ca.b2 hL
  refine ⟨h.ok, h.st.frame (hf 1 (by decide)) (hf 2 (by decide)) (hf 3 (by decide)) (hf 4 (by decide)), ?_⟩
  rw [hf 0 (by decide)]
  exact h.ca.ways (fun a a0 a1 => hf a (by omega)) (fun a ha => hg.1 a (by omega) (by omega)) (by rw [hg.1 44 (by decide) (by decide)]; exact h.ca.a1) (by rw [hg.1 45 (by decide) (by decide)]; exact h.ca.b1) hg.2.1 hg.2.2 h.ca.lv (fun z => z) (fun z => z) (fun z => (h.ca.p3 z).frame (fun a a0 a1 => hf a (by omega)) (hg.1 44 (by decide) (by decide)))
theorem otherCost_ok {B : Int} {s TE T : Int → Int} {o : Nat} {b : Int} (hK : Kc σ l B s) (hs : isCh o) (hCh : ChO σ o TE T ((3 ^ wH s : Nat) : Int) (2 * 3 ^ wH s)) (hCC : CCap l o (ln l (o + 5))) (hln : 2 * 3 ^ wH s ≤ ln l (o + 5)) (hb : -12 ≤ b ∧ b ≤ 12) :
    Fn g zX5_otherCost (pcL l - pcL (oL s TE b l)) (psL l - psL (oL s TE b l)) [.ref 0, .ref o, iv b] σ l (fun q τ l' => q = .inl (some (iv (wOc s TE b))) ∧ (∀ a, a < 46 ∨ 51 < a → τ a = σ a) ∧ LE2 (oL s TE b l) l') := by
  have ho := hK.ok
  have hc := hK.st
  have hw := wLk_rng (s := s) (TE := TE) (b := b) (Nat.zero_le (wN s))
  have hn40 := ho.n40
  refine Fn.of [some (.ref 0), some (.ref o), some (iv b)] rfl (by decide) (Nat.le_of_ble_eq_true rfl) rfl ?_
  refine g_aload1 dX5_otherCost_0 ?_
  refine g_aload0 dX5_otherCost_1 ?_
  refine f_getr (r := 1) rfl (by decide) rfl rfl fl_X5_10 dX5_otherCost_2 ?_
  refine g_iconst dX5_otherCost_5 ?_
  refine g_iload2 dX5_otherCost_6 ?_
  refine f_cV3w (lackingFrom_s ho hc hs hCh (pl := 0) (Nat.zero_le _) hb) hs.1 (hs.lt 0 (by decide)) rfl oY_X0_lackingFrom oI_X0_lackingFrom lk_X5_245 rfl dX5_otherCost_7 rfl (Or.inl rfl) ?_
  refine g_iconst dX5_otherCost_10 ?_
  refine g_icmp_eq ⟨by omega, by omega⟩ ⟨by decide, by decide⟩ (tgt := 16) dX5_otherCost_11 rfl (fun h11 => ?_) (fun h11 => ?_)
  · have eL : oL s TE b l = grW 46 s TE b l := if_neg (fun z => z h11)
    rw [eL]
    have hG := GrW (w := 46) (TE := TE) (b := b) ho isWy46 hK.ca.a2
    refine g_aload0 dX5_otherCost_16 ?_
    refine f_getr (r := 46) rfl (by decide) rfl rfl fl_X5_74 dX5_otherCost_17 ?_
    refine g_aload0 dX5_otherCost_20 ?_
    refine f_getr (r := 1) rfl (by decide) rfl rfl fl_X5_10 dX5_otherCost_21 ?_
    refine g_aload1 dX5_otherCost_24 ?_
    refine g_iload2 dX5_otherCost_25 ?_
    refine f_cV3m (find_s (w := 46) (o := o) (b := b) ho hK.st isWy46 hs hCh hCC hln hb hK.ca.a2) rfl (by decide) rfl oY_X4_find oI_X4_find lk_X5_328 rfl dX5_otherCost_26 (bud6 hG.1) (bud6 hG.2) rfl (Or.inr ⟨⟨(show okV 110 (.ref 0) from okVb_of rfl), ⟨Or.inl (hs.lt 0 (by decide)), hs.ow⟩, trivial, trivial⟩, trivial⟩) (fun σ26 l26 h26 => ?_)
    obtain ⟨f1, f2, f3⟩ := h26
    refine g_aload0 dX5_otherCost_29 ?_
    refine f_getr (r := 46) rfl (by decide) rfl rfl fl_X5_74 dX5_otherCost_30 ?_
    refine f_geti (J := 0) rfl (by decide) rfl rfl fl_X5_249 dX5_otherCost_33 ?_
    rw [f2.1]
    refine g_iretI rfl dX5_otherCost_36 ?_
    exact ⟨σ26, l26, rfl, by unfold wOc; rw [if_neg (fun z => z h11)], fun a ha => f1 a (by omega), f3⟩
  · refine g_iconst dX5_otherCost_14 ?_
    refine g_iretI rfl dX5_otherCost_15 ?_
    have eL : oL s TE b l = l := if_pos h11
    rw [eL]
    exact ⟨σ, l, rfl, by unfold wOc; rw [if_pos h11], fun _ _ => rfl, LE2.refl l⟩
theorem oL_c {s TE : Int → Int} {b : Int} {B : Int} {l' : Nat → Nat} (ho : SOK B s) (hA : ln l 50 ≤ 349920) (h : LE2 l l') : pcL (oL s TE b l') = pcL (oL s TE b l) ∧ psL (oL s TE b l') = psL (oL s TE b l) := pcL_eq (oL_LE ho hA h)
theorem costBy_ok {B : Int} {s : Int → Int} (hK : Kc σ l B s) {b : Int} (hx : R32 b) (h : -12 ≤ b ∧ b ≤ 12) : Fq g zX5_costBy [.ref 0, iv b] σ l B s (iv (wOc s (wTe s) b)) := by
  have ho := hK.ok
  have hc := hK.st
  obtain ⟨L, hL, e50, hF⟩ := freshen_okL (g := g) (lev := 2) hK ⟨by decide, by decide⟩
  have hA : 2 ≤ ln L 50 ∧ ln L 50 ≤ 349920 := by rw [e50 50 (by decide)]; exact hK.ca.a2
  have hG := oL_Gr (TE := wTe s) (b := b) ho hA
  have g1 : pcL L ≤ pcL l := hL.1
  have g2 : psL L ≤ psL l := hL.2
  have g3 : pcL (oL s (wTe s) b L) ≤ pcL L := hG.1
  have g4 : psL (oL s (wTe s) b L) ≤ psL L := hG.2
  refine ⟨oL s (wTe s) b L, hL.tr0 hG, Fn.of [some (.ref 0), some (iv b)] rfl (by decide) (Nat.le_of_ble_eq_true rfl) rfl ?_⟩
  refine g_aload0 dX5_costBy_0 ?_
  refine g_iload1 dX5_costBy_1 ?_
  refine g_bipush dX5_costBy_2 (by decide) ?_
  refine g_bipush dX5_costBy_4 (by decide) ?_
  refine f_cV3d (needRange_ok hx ⟨by decide, by decide⟩ ⟨by decide, by decide⟩ h) rfl (by decide) rfl oY_X5_needRange oI_X5_needRange lk_X5_110 rfl dX5_costBy_6 rfl (Or.inl rfl) ?_
  refine g_aload0 dX5_costBy_9 ?_
  refine g_iconst dX5_costBy_10 ?_
  refine f_cV1m (hF) rfl (by decide) rfl oY_X5_freshen oI_X5_freshen lk_X5_178 rfl dX5_costBy_11 (bud1 g3) (bud1 g4) rfl (okFb_of rfl) (fun σ11 l11 h11 => ?_)
  obtain ⟨hq, K1, hv0, hL1⟩ := h11
  have c1 := K1.st
  obtain ⟨hCh, G2⟩ := K1.ca.p2 (by omega)
  have hc1 := oL_c (TE := wTe s) (b := b) ho hA.2 hL1
  have hc2 := pcL_eq hL1
  refine g_aload0 dX5_costBy_14 ?_
  refine g_aload0 dX5_costBy_15 ?_
  refine f_getr (r := 24) rfl (by decide) rfl rfl fl_X5_60 dX5_costBy_16 ?_
  refine g_iload1 dX5_costBy_19 ?_
  refine f_cV2q (otherCost_ok (b := b) K1 isCh24 hCh K1.ca.ce G2 h) rfl (by decide) rfl oY_X5_otherCost oI_X5_otherCost lk_X5_264 rfl dX5_costBy_20 (by rw [hc1.1, hc2.1]; exact bud2 g3 g1) (by rw [hc1.2, hc2.2]; exact bud2 g4 g2) rfl (okFb_of rfl) (fun σ20 l20 h20 => ?_)
  obtain ⟨f1, f3⟩ := h20
  refine g_iretI rfl dX5_costBy_23 ?_
  exact Fq.ret rfl ⟨fun a a0 a1 => (f1 a (by omega)).trans (hq.1 a a0 a1), fun j hj => (congrFun (f1 0 (by decide)) j).trans (hq.2 j hj)⟩ (K1.ot f1 f3) ((oL_LE ho hA.2 hL1).trans f3)
theorem costBy_bad {B : Int} {s : Int → Int} (ho : SOK B s) (hc : CSt σ 1 s) {b : Int} (hx : R32 b) (h : ¬ (-12 ≤ b ∧ b ≤ 12)) : Ft g zX5_costBy [.ref 0, iv b] σ l 0 := by
  refine Fn.of [some (.ref 0), some (iv b)] rfl (by decide) (Nat.le_of_ble_eq_true rfl) rfl ?_
  refine g_aload0 dX5_costBy_0 ?_
  refine g_iload1 dX5_costBy_1 ?_
  refine g_bipush dX5_costBy_2 (by decide) ?_
  refine g_bipush dX5_costBy_4 (by decide) ?_
  refine f_cV3t (needRange_bad hx ⟨by decide, by decide⟩ ⟨by decide, by decide⟩ h) rfl (by decide) rfl oY_X5_needRange oI_X5_needRange lk_X5_110 rfl dX5_costBy_6 (by omega) (by omega) rfl (Or.inl rfl) rfl ?_
  exact Ft.ret
/-- how far turn j is -/
def bkF (j : Nat) : Int := if (j : Int) % 2 = 1 then ((j : Int) + 1) / 2 else -(((j : Int) + 1) / 2)
theorem bkF_rng {j : Nat} (h : j < 13) : -12 ≤ bkF j ∧ bkF j ≤ 12 := by
  unfold bkF
  split <;> omega
def wBb (s : Int → Int) : Nat → Int × Int
  | 0 => (-99, 1000000)
  | j + 1 => if wOc s (wTe s) (bkF j) ≠ -1 ∧ wOc s (wTe s) (bkF j) < (wBb s j).2 then (bkF j, wOc s (wTe s) (bkF j)) else wBb s j
theorem wBb_rng {B : Int} {s : Int → Int} (ho : SOK B s) (j : Nat) : -1 ≤ (wBb s j).2 ∧ (wBb s j).2 ≤ 1000000 := by
  induction j with
  | zero => exact ⟨by show (-1 : Int) ≤ 1000000; decide, Int.le_refl _⟩
  | succ j ih =>
    have h := wOc_rng (TE := wTe s) (b := bkF j) ho
    unfold wBb
    split
    · dsimp only; omega
    · exact ih
def bbL (s : Int → Int) (l : Nat → Nat) : Nat → Nat → Nat
  | 0 => l
  | j + 1 => oL s (wTe s) (bkF j) (bbL s l j)
theorem bbL_ok {B : Int} {s : Int → Int} (ho : SOK B s) (hA : 2 ≤ ln l 50 ∧ ln l 50 ≤ 349920) (hB : 2 ≤ ln l 51 ∧ ln l 51 ≤ 4374) (j : Nat) : (2 ≤ ln (bbL s l j) 50 ∧ ln (bbL s l j) 50 ≤ 349920) ∧ (2 ≤ ln (bbL s l j) 51 ∧ ln (bbL s l j) 51 ≤ 4374) ∧ Gr l (bbL s l j) 0 0 := by
  induction j with
  | zero => exact ⟨hA, hB, Gr.refl l⟩
  | succ j ih =>
    have h := oL_ln (TE := wTe s) (b := bkF j) ho ih.1 ih.2.1 (LE2.refl _)
    exact ⟨h.2.1, h.2.2, ih.2.2.tr0 (oL_Gr ho ih.1)⟩
theorem bbL_Gr {B : Int} {s : Int → Int} (ho : SOK B s) (hA : 2 ≤ ln l 50 ∧ ln l 50 ≤ 349920) (hB : 2 ≤ ln l 51 ∧ ln l 51 ≤ 4374) (j d : Nat) : Gr (bbL s l j) (bbL s l (j + d)) 0 0 := by
  induction d with
  | zero => exact Gr.refl _
  | succ d ih => exact ih.tr0 (oL_Gr ho (bbL_ok ho hA hB (j + d)).1)
theorem bestBy_ok {B : Int} {s : Int → Int} (hK : Kc σ l B s) : Fq g zX5_bestBy [.ref 0] σ l B s (iv (wBb s 13).1) := by
  have ho := hK.ok
  have hc := hK.st
  obtain ⟨L, hL, e50, hF⟩ := freshen_okL (g := g) (lev := 2) hK ⟨by decide, by decide⟩
  have hA : 2 ≤ ln L 50 ∧ ln L 50 ≤ 349920 := by rw [e50 50 (by decide)]; exact hK.ca.a2
  have hB : 2 ≤ ln L 51 ∧ ln L 51 ≤ 4374 := by rw [e50 51 (by decide)]; exact hK.ca.b2
  have hG := bbL_Gr ho hA hB 0 13
  have g1 : pcL L ≤ pcL l := hL.1
  have g2 : psL L ≤ psL l := hL.2
  rw [Nat.zero_add] at hG
  have g3 : pcL (bbL s L 13) ≤ pcL L := hG.1
  have g4 : psL (bbL s L 13) ≤ psL L := hG.2
  refine ⟨bbL s L 13, ⟨Nat.le_trans g3 g1, Nat.le_trans g4 g2⟩, Fn.of [some (.ref 0), none, none, none, none, none, none] rfl (by decide) (Nat.le_of_ble_eq_true rfl) rfl ?_⟩
  refine g_aload0 dX5_bestBy_0 ?_
  refine g_iconst dX5_bestBy_1 ?_
  refine f_cV1m (hF) rfl (by decide) rfl oY_X5_freshen oI_X5_freshen lk_X5_178 rfl dX5_bestBy_2 (bud1 g3) (bud1 g4) rfl (okFb_of rfl) (fun σ2 l2 h2 => ?_)
  obtain ⟨hq, K1, hv0, hL1⟩ := h2
  have c1 := K1.st
  obtain ⟨hCh, G2⟩ := K1.ca.p2 (by omega)
  have loop : ∀ q : Nat, q ≤ 13 → ∀ (i be le : Int) (σq : sT) (lq : Nat → Nat) (k n : Nat), i = (q : Int) → be = (wBb s q).1 → le = (wBb s q).2 → Qf σ σq → Kc σq lq B s → LE2 (bbL s L q) lq → ChO σq 24 (wTe s) (wT s) ((3 ^ wH s : Nat) : Int) (2 * 3 ^ wH s) → 2 * 3 ^ wH s ≤ ln lq 29 → pcL (bbL s L q) - pcL (bbL s L 13) ≤ k → psL (bbL s L q) - psL (bbL s L 13) ≤ n → FW g zX5_bestBy k n (fun o τ l' => o = .inl (some (iv (wBb s 13).1)) ∧ Qf σ τ ∧ Kc τ l' B s ∧ LE2 (bbL s L 13) l') 13 [some (.ref 0), some (iv be), some (iv le), some (iv i), none, none, none] [] σq lq := by
    refine loopUp _ (fun q hq2 ih i be le σq lq k n hi hbe hle hqq Kq hLq hCq Gq hk hn => ?_)
    subst hi
    refine g_iload3 dX5_bestBy_13 ?_
    refine g_bipush dX5_bestBy_14 (by decide) ?_
    refine g_icmp_gt ⟨by omega, by omega⟩ ⟨by omega, by omega⟩ (tgt := 79) dX5_bestBy_16 rfl (fun h16 => ?_) (fun h16 => ?_)
    · refine g_iload1 dX5_bestBy_79 ?_
      refine g_iretI rfl dX5_bestBy_80 ?_
      have e9 : q = 13 := by omega
      subst e9
      exact Fq.ret (by rw [hbe]) hqq Kq hLq
    · refine g_iload3 dX5_bestBy_19 ?_
      obtain ⟨hAq, hBq, _⟩ := bbL_ok ho hA hB q
      have hGq := oL_Gr (TE := wTe s) (b := bkF q) ho hAq
      have hG1 := bbL_Gr ho hA hB (q + 1) (13 - (q + 1))
      rw [show q + 1 + (13 - (q + 1)) = 13 from by omega] at hG1
      have g5 : pcL (bbL s L (q + 1)) ≤ pcL (bbL s L q) := hGq.1
      have g6 : psL (bbL s L (q + 1)) ≤ psL (bbL s L q) := hGq.2
      have g7 : pcL (bbL s L 13) ≤ pcL (bbL s L (q + 1)) := hG1.1
      have g8 : psL (bbL s L 13) ≤ psL (bbL s L (q + 1)) := hG1.2
      have hc1 : pcL (oL s (wTe s) (bkF q) lq) = pcL (bbL s L (q + 1)) ∧ psL (oL s (wTe s) (bkF q) lq) = psL (bbL s L (q + 1)) := oL_c ho hAq.2 hLq
      have hc2 := pcL_eq hLq
      refine g_iconst dX5_bestBy_20 ?_
      refine g_iadd dX5_bestBy_21 ?_
      refine g_iconst dX5_bestBy_22 ?_
      refine g_idiv ⟨by omega, by omega⟩ ⟨by decide, by decide⟩ dX5_bestBy_23 ?_
      refine g_istore4 dX5_bestBy_24 rfl (by decide) ?_
      refine g_iload3 dX5_bestBy_26 ?_
      refine g_iconst dX5_bestBy_27 ?_
      refine g_irem ⟨by omega, by omega⟩ ⟨by decide, by decide⟩ dX5_bestBy_28 ?_
      refine g_iconst dX5_bestBy_29 ?_
      refine g_icmp_ne ⟨by omega, by omega⟩ ⟨by decide, by decide⟩ (tgt := 38) dX5_bestBy_30 rfl (fun h30 => ?_) (fun h30 => ?_)
      · refine g_iload4 dX5_bestBy_38 ?_
        refine g_ineg dX5_bestBy_40 ?_
        rw [show -(((q : Int) + 1) / 2) = bkF q from (if_neg h30).symm]
        refine g_istore5 dX5_bestBy_41 rfl (by decide) ?_
        refine g_aload0 dX5_bestBy_43 ?_
        refine g_aload0 dX5_bestBy_44 ?_
        refine f_getr (r := 24) rfl (by decide) rfl rfl fl_X5_60 dX5_bestBy_45 ?_
        refine g_iload5 dX5_bestBy_48 ?_
        refine f_cV2q (otherCost_ok (b := bkF q) Kq isCh24 hCq Kq.ca.ce Gq (bkF_rng (by omega))) rfl (by decide) rfl oY_X5_otherCost oI_X5_otherCost lk_X5_264 rfl dX5_bestBy_50 (by rw [hc1.1, hc2.1]; exact Nat.le_trans (bud1 g7) hk) (by rw [hc1.2, hc2.2]; exact Nat.le_trans (bud1 g8) hn) rfl (okFb_of rfl) (fun σ50 l50 h50 => ?_)
        obtain ⟨f1, f3⟩ := h50
        have Kn := Kq.ot f1 f3
        have hqn : Qf σ σ50 := ⟨fun a a0 a1 => (f1 a (by omega)).trans (hqq.1 a a0 a1), fun j hj => (congrFun (f1 0 (by decide)) j).trans (hqq.2 j hj)⟩
        have hLn : LE2 (bbL s L (q + 1)) l50 := (oL_LE ho hAq.2 hLq).trans f3
        have hCn : ChO σ50 24 (wTe s) (wT s) ((3 ^ wH s : Nat) : Int) (2 * 3 ^ wH s) := hCq.frame (fun a a0 a1 => f1 a (by omega))
        have hln := (oL_ln ho Kq.ca.a2 Kq.ca.b2 f3).1 29 (by decide) (by decide)
        have hw := wOc_rng (TE := wTe s) (b := bkF q) ho
        have hbr := wBb_rng ho q
        have hk9 : pcL (bbL s L (q + 1)) - pcL (bbL s L 13) ≤ k - (pcL lq - pcL (oL s (wTe s) (bkF q) lq)) := by rw [hc1.1, hc2.1]; exact bud3 hk g5 g7
        have hn9 : psL (bbL s L (q + 1)) - psL (bbL s L 13) ≤ n - (psL lq - psL (oL s (wTe s) (bkF q) lq)) := by rw [hc1.2, hc2.2]; exact bud3 hn g6 g8
        refine g_istore6 dX5_bestBy_53 rfl (by decide) ?_
        refine g_iload6 dX5_bestBy_55 ?_
        refine g_iconst dX5_bestBy_57 ?_
        refine g_icmp_eq ⟨by omega, by omega⟩ ⟨by decide, by decide⟩ (tgt := 73) dX5_bestBy_58 rfl (fun h58 => ?_) (fun h58 => ?_)
        · refine g_iinc3 dX5_bestBy_73 rfl (by decide) ?_
          refine g_goto (tgt := 13) dX5_bestBy_76 rfl ?_
          refine g_forget 4 ?_
          refine g_forget 5 ?_
          refine g_forget 6 ?_
          first
            | exact ih (by omega) _ _ _ _ _ _ _ (by push_cast; omega) (by rw [wBb, if_pos ⟨by omega, by omega⟩]) (by rw [wBb, if_pos ⟨by omega, by omega⟩]) hqn Kn hLn hCn (by rw [hln]; exact Gq) hk9 hn9
            | exact ih (by omega) _ _ _ _ _ _ _ (by push_cast; omega) (by rw [wBb, if_neg (fun z => by omega)]; exact hbe) (by rw [wBb, if_neg (fun z => by omega)]; exact hle) hqn Kn hLn hCn (by rw [hln]; exact Gq) hk9 hn9
        · refine g_iload6 dX5_bestBy_61 ?_
          refine g_iload2 dX5_bestBy_63 ?_
          refine g_icmp_ge ⟨by omega, by omega⟩ ⟨by omega, by omega⟩ (tgt := 73) dX5_bestBy_64 rfl (fun h64 => ?_) (fun h64 => ?_)
          · refine g_iinc3 dX5_bestBy_73 rfl (by decide) ?_
            refine g_goto (tgt := 13) dX5_bestBy_76 rfl ?_
            refine g_forget 4 ?_
            refine g_forget 5 ?_
            refine g_forget 6 ?_
            first
              | exact ih (by omega) _ _ _ _ _ _ _ (by push_cast; omega) (by rw [wBb, if_pos ⟨by omega, by omega⟩]) (by rw [wBb, if_pos ⟨by omega, by omega⟩]) hqn Kn hLn hCn (by rw [hln]; exact Gq) hk9 hn9
              | exact ih (by omega) _ _ _ _ _ _ _ (by push_cast; omega) (by rw [wBb, if_neg (fun z => by omega)]; exact hbe) (by rw [wBb, if_neg (fun z => by omega)]; exact hle) hqn Kn hLn hCn (by rw [hln]; exact Gq) hk9 hn9
          · refine g_iload6 dX5_bestBy_67 ?_
            refine g_istore2 dX5_bestBy_69 rfl (by decide) ?_
            refine g_iload5 dX5_bestBy_70 ?_
            refine g_istore1 dX5_bestBy_72 rfl (by decide) ?_
            refine g_iinc3 dX5_bestBy_73 rfl (by decide) ?_
            refine g_goto (tgt := 13) dX5_bestBy_76 rfl ?_
            refine g_forget 4 ?_
            refine g_forget 5 ?_
            refine g_forget 6 ?_
            first
              | exact ih (by omega) _ _ _ _ _ _ _ (by push_cast; omega) (by rw [wBb, if_pos ⟨by omega, by omega⟩]) (by rw [wBb, if_pos ⟨by omega, by omega⟩]) hqn Kn hLn hCn (by rw [hln]; exact Gq) hk9 hn9
              | exact ih (by omega) _ _ _ _ _ _ _ (by push_cast; omega) (by rw [wBb, if_neg (fun z => by omega)]; exact hbe) (by rw [wBb, if_neg (fun z => by omega)]; exact hle) hqn Kn hLn hCn (by rw [hln]; exact Gq) hk9 hn9
      · refine g_iload4 dX5_bestBy_33 ?_
        rw [show ((q : Int) + 1) / 2 = bkF q from (if_pos h30).symm]
        refine g_goto (tgt := 41) dX5_bestBy_35 rfl ?_
        refine g_istore5 dX5_bestBy_41 rfl (by decide) ?_
        refine g_aload0 dX5_bestBy_43 ?_
        refine g_aload0 dX5_bestBy_44 ?_
        refine f_getr (r := 24) rfl (by decide) rfl rfl fl_X5_60 dX5_bestBy_45 ?_
        refine g_iload5 dX5_bestBy_48 ?_
        refine f_cV2q (otherCost_ok (b := bkF q) Kq isCh24 hCq Kq.ca.ce Gq (bkF_rng (by omega))) rfl (by decide) rfl oY_X5_otherCost oI_X5_otherCost lk_X5_264 rfl dX5_bestBy_50 (by rw [hc1.1, hc2.1]; exact Nat.le_trans (bud1 g7) hk) (by rw [hc1.2, hc2.2]; exact Nat.le_trans (bud1 g8) hn) rfl (okFb_of rfl) (fun σ50 l50 h50 => ?_)
        obtain ⟨f1, f3⟩ := h50
        have Kn := Kq.ot f1 f3
        have hqn : Qf σ σ50 := ⟨fun a a0 a1 => (f1 a (by omega)).trans (hqq.1 a a0 a1), fun j hj => (congrFun (f1 0 (by decide)) j).trans (hqq.2 j hj)⟩
        have hLn : LE2 (bbL s L (q + 1)) l50 := (oL_LE ho hAq.2 hLq).trans f3
        have hCn : ChO σ50 24 (wTe s) (wT s) ((3 ^ wH s : Nat) : Int) (2 * 3 ^ wH s) := hCq.frame (fun a a0 a1 => f1 a (by omega))
        have hln := (oL_ln ho Kq.ca.a2 Kq.ca.b2 f3).1 29 (by decide) (by decide)
        have hw := wOc_rng (TE := wTe s) (b := bkF q) ho
        have hbr := wBb_rng ho q
        have hk9 : pcL (bbL s L (q + 1)) - pcL (bbL s L 13) ≤ k - (pcL lq - pcL (oL s (wTe s) (bkF q) lq)) := by rw [hc1.1, hc2.1]; exact bud3 hk g5 g7
        have hn9 : psL (bbL s L (q + 1)) - psL (bbL s L 13) ≤ n - (psL lq - psL (oL s (wTe s) (bkF q) lq)) := by rw [hc1.2, hc2.2]; exact bud3 hn g6 g8
        refine g_istore6 dX5_bestBy_53 rfl (by decide) ?_
        refine g_iload6 dX5_bestBy_55 ?_
        refine g_iconst dX5_bestBy_57 ?_
        refine g_icmp_eq ⟨by omega, by omega⟩ ⟨by decide, by decide⟩ (tgt := 73) dX5_bestBy_58 rfl (fun h58 => ?_) (fun h58 => ?_)
        · refine g_iinc3 dX5_bestBy_73 rfl (by decide) ?_
          refine g_goto (tgt := 13) dX5_bestBy_76 rfl ?_
          refine g_forget 4 ?_
          refine g_forget 5 ?_
          refine g_forget 6 ?_
          first
            | exact ih (by omega) _ _ _ _ _ _ _ (by push_cast; omega) (by rw [wBb, if_pos ⟨by omega, by omega⟩]) (by rw [wBb, if_pos ⟨by omega, by omega⟩]) hqn Kn hLn hCn (by rw [hln]; exact Gq) hk9 hn9
            | exact ih (by omega) _ _ _ _ _ _ _ (by push_cast; omega) (by rw [wBb, if_neg (fun z => by omega)]; exact hbe) (by rw [wBb, if_neg (fun z => by omega)]; exact hle) hqn Kn hLn hCn (by rw [hln]; exact Gq) hk9 hn9
        · refine g_iload6 dX5_bestBy_61 ?_
          refine g_iload2 dX5_bestBy_63 ?_
          refine g_icmp_ge ⟨by omega, by omega⟩ ⟨by omega, by omega⟩ (tgt := 73) dX5_bestBy_64 rfl (fun h64 => ?_) (fun h64 => ?_)
          · refine g_iinc3 dX5_bestBy_73 rfl (by decide) ?_
            refine g_goto (tgt := 13) dX5_bestBy_76 rfl ?_
            refine g_forget 4 ?_
            refine g_forget 5 ?_
            refine g_forget 6 ?_
            first
              | exact ih (by omega) _ _ _ _ _ _ _ (by push_cast; omega) (by rw [wBb, if_pos ⟨by omega, by omega⟩]) (by rw [wBb, if_pos ⟨by omega, by omega⟩]) hqn Kn hLn hCn (by rw [hln]; exact Gq) hk9 hn9
              | exact ih (by omega) _ _ _ _ _ _ _ (by push_cast; omega) (by rw [wBb, if_neg (fun z => by omega)]; exact hbe) (by rw [wBb, if_neg (fun z => by omega)]; exact hle) hqn Kn hLn hCn (by rw [hln]; exact Gq) hk9 hn9
          · refine g_iload6 dX5_bestBy_67 ?_
            refine g_istore2 dX5_bestBy_69 rfl (by decide) ?_
            refine g_iload5 dX5_bestBy_70 ?_
            refine g_istore1 dX5_bestBy_72 rfl (by decide) ?_
            refine g_iinc3 dX5_bestBy_73 rfl (by decide) ?_
            refine g_goto (tgt := 13) dX5_bestBy_76 rfl ?_
            refine g_forget 4 ?_
            refine g_forget 5 ?_
            refine g_forget 6 ?_
            first
              | exact ih (by omega) _ _ _ _ _ _ _ (by push_cast; omega) (by rw [wBb, if_pos ⟨by omega, by omega⟩]) (by rw [wBb, if_pos ⟨by omega, by omega⟩]) hqn Kn hLn hCn (by rw [hln]; exact Gq) hk9 hn9
              | exact ih (by omega) _ _ _ _ _ _ _ (by push_cast; omega) (by rw [wBb, if_neg (fun z => by omega)]; exact hbe) (by rw [wBb, if_neg (fun z => by omega)]; exact hle) hqn Kn hLn hCn (by rw [hln]; exact Gq) hk9 hn9
  refine g_bipush dX5_bestBy_5 (by decide) ?_
  refine g_istore1 dX5_bestBy_7 rfl (by decide) ?_
  refine g_ldc (v := Int32.ofInt (1000000)) kc_X5_210 dX5_bestBy_8 ?_
  refine g_istore2 dX5_bestBy_10 rfl (by decide) ?_
  refine g_iconst dX5_bestBy_11 ?_
  refine g_istore3 dX5_bestBy_12 rfl (by decide) ?_
  exact loop 0 (by decide) _ _ _ _ _ _ _ rfl rfl rfl hq K1 hL1 hCh G2 (bud2 g3 g1) (bud2 g4 g2)
theorem Kc.och {τ : sT} {l' : Nat → Nat} {B : Int} {s : Int → Int} (h : Kc σ l B s) (hf : ∀ a, a < 33 ∨ 39 < a → τ a = σ a) (hC : CCap l' 32 (ln l' 37)) (hL : LE2 (gr2 32 (2 * 3 ^ wH s) l) l') : Kc τ l' B s := by
  have ho := h.ok
  have hp := p3_le ho.h7
  have e : ∀ a, a < 37 ∨ 39 < a → ln l' a = ln l a := fun a ha => by rw [hL a, ln_gr2 isCh32 (by omega), if_neg (by omega)]
  have e37 : ln l' 37 = max (ln l 37) (2 * 3 ^ wH s) := by rw [hL 37, ln_gr2 isCh32 (by omega), if_pos (by decide)]
  have hca := h.ca
  refine ⟨ho, h.st.frame (hf 1 (by decide)) (hf 2 (by decide)) (hf 3 (by decide)) (hf 4 (by decide)), ?_⟩
  rw [hf 0 (by decide)]
  refine ⟨by rw [e 18 (by decide)]; exact hca.c1, hca.fcT (fun a a0 a1 => e a (by omega)), fun p a0 a1 => ?_, hca.ceT (fun a a0 a1 => e a (by omega)), by rw [e 29 (by decide)]; exact hca.e1, hC, by rw [e37]; have := hca.e2; omega, by rw [e 44 (by decide)]; exact hca.a1, by rw [e 45 (by decide)]; exact hca.b1, by rw [e 50 (by decide)]; exact hca.a2, by rw [e 51 (by decide)]; exact hca.b2, by rw [hf 17 (by decide), e 18 (by decide)]; exact hca.cnt, hca.lv, fun z => ?_, fun z => ?_, fun z => (hca.p3 z).frame (fun a a0 a1 => hf a (by omega)) (e 44 (by decide))⟩
  · unfold FG1
    rw [hf 18 (by decide), hf 19 (by decide), hf 20 (by decide)]
    exact hca.fg p a0 (by rw [e 18 (by decide)] at a1; exact a1)
  · unfold FPw
    rw [hf 17 (by decide), hf 21 (by decide), hf 22 (by decide), e 18 (by decide)]
    exact hca.p1 z
  · rw [e 29 (by decide)]
    exact ⟨(hca.p2 z).1.frame (fun a a0 a1 => hf a (by omega)), (hca.p2 z).2⟩
theorem costWith_ok {B : Int} {s : Int → Int} (hK : Kc σ l B s) {hv cr : Int} (hx : R32 hv) (hy : R32 cr) (h : (0 ≤ hv ∧ hv ≤ 2) ∧ 0 ≤ cr ∧ cr ≤ 3) : Fq g zX5_costWith [.ref 0, iv hv, iv cr] σ l B s (iv (wOc s (wTE s hv cr) 0)) := by
  have ho := hK.ok
  have hc := hK.st
  have hp := p3_le ho.h7
  obtain ⟨L, hL, e50, hF⟩ := freshen_okL (g := g) (lev := 1) hK ⟨by decide, by decide⟩
  have hG2 := Gr2 (l := L) isCh32 ho.h7
  have eg : ∀ a, a < 37 ∨ 39 < a → ln (gr2 32 (2 * 3 ^ wH s) L) a = ln L a := fun a ha => by rw [ln_gr2 isCh32 (by omega), if_neg (by omega)]
  have hA : 2 ≤ ln (gr2 32 (2 * 3 ^ wH s) L) 50 ∧ ln (gr2 32 (2 * 3 ^ wH s) L) 50 ≤ 349920 := by rw [eg 50 (by decide), e50 50 (by decide)]; exact hK.ca.a2
  have hG := oL_Gr (TE := wTE s hv cr) (b := 0) ho hA
  have g1 : pcL L ≤ pcL l := hL.1
  have g2 : psL L ≤ psL l := hL.2
  have g3 : pcL (oL s (wTE s hv cr) 0 (gr2 32 (2 * 3 ^ wH s) L)) ≤ pcL (gr2 32 (2 * 3 ^ wH s) L) := hG.1
  have g4 : psL (oL s (wTE s hv cr) 0 (gr2 32 (2 * 3 ^ wH s) L)) ≤ psL (gr2 32 (2 * 3 ^ wH s) L) := hG.2
  have g5 := hG2.1
  have g6 := hG2.2
  have hGG := hG2.w.tr0 hG
  have g7 : pcL (oL s (wTE s hv cr) 0 (gr2 32 (2 * 3 ^ wH s) L)) ≤ pcL L := hGG.1
  have g8 : psL (oL s (wTE s hv cr) 0 (gr2 32 (2 * 3 ^ wH s) L)) ≤ psL L := hGG.2
  refine ⟨oL s (wTE s hv cr) 0 (gr2 32 (2 * 3 ^ wH s) L), hL.tr0 hGG, Fn.of [some (.ref 0), some (iv hv), some (iv cr)] rfl (by decide) (Nat.le_of_ble_eq_true rfl) rfl ?_⟩
  refine g_aload0 dX5_costWith_0 ?_
  refine g_iload1 dX5_costWith_1 ?_
  refine g_iload2 dX5_costWith_2 ?_
  refine f_cV2d (needLimits_ok hx hy h) rfl (by decide) rfl oY_X5_needLimits oI_X5_needLimits lk_X5_268 rfl dX5_costWith_3 rfl (Or.inl rfl) ?_
  refine g_aload0 dX5_costWith_6 ?_
  refine g_iconst dX5_costWith_7 ?_
  refine f_cV1m (hF) rfl (by decide) rfl oY_X5_freshen oI_X5_freshen lk_X5_178 rfl dX5_costWith_8 (bud1 g7) (bud1 g8) rfl (okFb_of rfl) (fun σ8 l8 h8 => ?_)
  obtain ⟨hq, K1, hv0, hL1⟩ := h8
  have c1 := K1.st
  obtain ⟨F1, F2⟩ := K1.ca.p1 (by omega)
  have hc2 := pcL_eq hL1
  have hL2 := gr2_LE (o := 32) (N := 2 * 3 ^ wH s) isCh32 (by omega) hL1
  have hc3 := pcL_eq hL2
  refine g_aload0 dX5_costWith_11 ?_
  refine f_getr (r := 32) rfl (by decide) rfl rfl fl_X5_64 dX5_costWith_12 ?_
  refine g_aload0 dX5_costWith_15 ?_
  refine f_getr (r := 17) rfl (by decide) rfl rfl fl_X5_53 dX5_costWith_16 ?_
  refine g_aload0 dX5_costWith_19 ?_
  refine f_getr (r := 1) rfl (by decide) rfl rfl fl_X5_10 dX5_costWith_20 ?_
  refine f_geti (J := 2) rfl (by decide) rfl rfl fl_X5_120 dX5_costWith_23 ?_
  rw [c1.f2]
  refine g_iload1 dX5_costWith_26 ?_
  refine g_iload2 dX5_costWith_27 ?_
  refine f_cV4m (choose_s (o := 32) (hv := hv) (cr := cr) ho isCh32 F1 K1.ca.fg K1.ca.fc F2 K1.ca.co ⟨by omega, by omega⟩ ⟨by omega, by omega⟩) rfl (by decide) rfl oY_X0_choose oI_X0_choose lk_X5_272 rfl dX5_costWith_28 (by rw [hL1 (32 + 5)]; exact bud4 g5 g3 g1) (by rw [hL1 (32 + 5)]; exact bud4 g6 g4 g2) rfl (okFb_of rfl) (fun σ28 l28 h28 => ?_)
  obtain ⟨f1, f2, f3, f4⟩ := h28
  have K2 := K1.och f1 f3 f4
  have hL3 := hL2.trans f4
  have hc4 := pcL_eq hL3
  have hc5 := oL_c (TE := wTE s hv cr) (b := 0) ho hA.2 hL3
  have e37 : ln l28 37 = max (ln l8 37) (2 * 3 ^ wH s) := by rw [f4 37, ln_gr2 isCh32 (by omega), if_pos (by decide)]
  refine g_aload0 dX5_costWith_31 ?_
  refine g_aload0 dX5_costWith_32 ?_
  refine f_getr (r := 32) rfl (by decide) rfl rfl fl_X5_64 dX5_costWith_33 ?_
  refine g_iconst dX5_costWith_36 ?_
  refine f_cV2q (otherCost_ok (b := 0) K2 isCh32 f2 f3 (by show _ ≤ ln l28 37; rw [e37]; omega) ⟨by decide, by decide⟩) rfl (by decide) rfl oY_X5_otherCost oI_X5_otherCost lk_X5_264 rfl dX5_costWith_37 (by rw [hc5.1, hc4.1, hL1 (32 + 5)]; exact bud5 g5 g3 g1) (by rw [hc5.2, hc4.2, hL1 (32 + 5)]; exact bud5 g6 g4 g2) rfl (okFb_of rfl) (fun σ37 l37 h37 => ?_)
  obtain ⟨z1, z3⟩ := h37
  refine g_iretI rfl dX5_costWith_40 ?_
  exact Fq.ret rfl ⟨fun a a0 a1 => ((z1 a (by omega)).trans (f1 a (by omega))).trans (hq.1 a a0 a1), fun j hj => ((congrFun (z1 0 (by decide)) j).trans (congrFun (f1 0 (by decide)) j)).trans (hq.2 j hj)⟩ (K2.ot z1 z3) ((oL_LE ho hA.2 hL3).trans z3)
theorem costWith_bad {B : Int} {s : Int → Int} {hv cr : Int} (hx : R32 hv) (hy : R32 cr) (h : ¬ ((0 ≤ hv ∧ hv ≤ 2) ∧ 0 ≤ cr ∧ cr ≤ 3)) : Ft g zX5_costWith [.ref 0, iv hv, iv cr] σ l 0 := by
  refine Fn.of [some (.ref 0), some (iv hv), some (iv cr)] rfl (by decide) (Nat.le_of_ble_eq_true rfl) rfl ?_
  refine g_aload0 dX5_costWith_0 ?_
  refine g_iload1 dX5_costWith_1 ?_
  refine g_iload2 dX5_costWith_2 ?_
  refine f_cV2t (needLimits_bad hx hy h) rfl (by decide) rfl oY_X5_needLimits oI_X5_needLimits lk_X5_268 rfl dX5_costWith_3 (by omega) (by omega) rfl (Or.inl rfl) rfl ?_
  exact Ft.ret
theorem lim_bit (T hF xF : Int → Int) (t : Int) (j : Nat) : ∀ n : Nat, (limN T hF xF t n).testBit j = true ↔ ∃ q : Nat, q < n ∧ T q = t ∧ hF q ≤ 2 ∧ xF q ≤ 3 ∧ j = (hF q).toNat * 4 + (xF q).toNat := by
  intro n
  induction n with
  | zero => 
    unfold limN
    rw [Nat.zero_testBit]
    exact ⟨fun z => (by cases z), fun ⟨q, z, _⟩ => (by omega)⟩
  | succ n ih =>
    unfold limN
    by_cases hc : T n = t ∧ hF n ≤ 2 ∧ xF n ≤ 3
    · rw [if_pos hc, Nat.testBit_or, Bool.or_eq_true, ih, Nat.testBit_two_pow]
      constructor
      · rintro (⟨q, h1, h2⟩ | h)
        · exact ⟨q, by omega, h2⟩
        · exact ⟨n, by omega, hc.1, hc.2.1, hc.2.2, (of_decide_eq_true h).symm⟩
      · rintro ⟨q, h1, h2⟩
        by_cases e : q = n
        · subst e; exact Or.inr (decide_eq_true h2.2.2.2.symm)
        · exact Or.inl ⟨q, by omega, h2⟩
    · rw [if_neg hc, ih]
      constructor
      · rintro ⟨q, h1, h2⟩; exact ⟨q, by omega, h2⟩
      · rintro ⟨q, h1, h2⟩
        by_cases e : q = n
        · subst e; exact absurd ⟨h2.1, h2.2.1, h2.2.2.1⟩ hc
        · exact ⟨q, by omega, h2⟩
theorem posC_bit (m h : Nat) : ∀ f c : Nat, posC m h f c = true ↔ ∃ d, c ≤ d ∧ d < c + f ∧ m.testBit (h * 4 + d) = true := by
  intro f
  induction f with
  | zero => intro c; unfold posC; exact ⟨fun z => (by cases z), fun ⟨d, z⟩ => by omega⟩
  | succ f ih =>
    intro c
    unfold posC
    rw [Bool.or_eq_true, ih]
    constructor
    · rintro (h1 | ⟨d, h1⟩)
      · exact ⟨c, by omega, by omega, h1⟩
      · exact ⟨d, by omega, by omega, h1.2.2⟩
    · rintro ⟨d, h1⟩
      by_cases e : d = c
      · subst e; exact Or.inl h1.2.2
      · exact Or.inr ⟨d, by omega, by omega, h1.2.2⟩
theorem posB_bit (m cr : Nat) : ∀ f h : Nat, posB m cr f h = true ↔ ∃ e, h ≤ e ∧ e < h + f ∧ ∃ d, d ≤ cr ∧ m.testBit (e * 4 + d) = true := by
  intro f
  induction f with
  | zero => intro c; unfold posB; exact ⟨fun z => (by cases z), fun ⟨d, z⟩ => by omega⟩
  | succ f ih =>
    intro h
    unfold posB
    rw [Bool.or_eq_true, ih, posC_bit]
    constructor
    · rintro (⟨d, h1⟩ | ⟨e, h1, h2, d, h3⟩)
      · exact ⟨h, by omega, by omega, d, by omega, h1.2.2⟩
      · exact ⟨e, by omega, by omega, d, h3⟩
    · rintro ⟨e, h1, h2, d, h3, h4⟩
      by_cases c : e = h
      · subst c; exact Or.inl ⟨d, by omega, by omega, h4⟩
      · exact Or.inr ⟨e, by omega, by omega, d, h3, h4⟩
theorem EL_ne {f : Int → Int} {t : Int} {n : Nat} : (EL f t n).length ≠ 0 ↔ ∃ q : Nat, q < n ∧ f q = t := by
  unfold EL
  constructor
  · intro h
    obtain ⟨q, hq⟩ := List.exists_mem_of_length_pos (Nat.pos_of_ne_zero h)
    rw [List.mem_filter, List.mem_range] at hq
    exact ⟨q, hq.1, of_decide_eq_true hq.2⟩
  · rintro ⟨q, h1, h2⟩
    exact Nat.ne_of_gt (List.length_pos_of_mem (a := q) (List.mem_filter.mpr ⟨List.mem_range.mpr h1, decide_eq_true h2⟩))
theorem pos_EP {cR : Int → Int} {c tol t : Int} {N hv cr : Nat} (ht : 0 ≤ t ∧ t < 25) (hv2 : hv ≤ 2) (cr3 : cr ≤ 3) : posB (limN (tnP cR c tol) (fun p => hvF (fgF c p)) (fun p => crF (fgF c p)) t N) cr (hv + 1) 0 = true ↔ (EP (teP cR c tol hv cr) N t).length ≠ 0 := by
  unfold EP
  rw [if_pos ht, EL_ne, posB_bit]
  constructor
  · rintro ⟨e, h1, h2, d, h3, h4⟩
    obtain ⟨q, q1, q2, q3, q4, q5⟩ := (lim_bit _ _ _ _ _ _).mp h4
    have r1 := hvF_rng (fgF c q)
    have r2 := crF_rng (fgF c q)
    refine ⟨q, q1, ?_⟩
    unfold teP
    rw [if_pos ⟨by omega, by omega, by omega⟩]
    exact q2
  · rintro ⟨q, q1, q2⟩
    have r1 := hvF_rng (fgF c q)
    have r2 := crF_rng (fgF c q)
    unfold teP at q2
    split at q2
    · next h =>
      exact ⟨(hvF (fgF c q)).toNat, by omega, by omega, (crF (fgF c q)).toNat, by omega, (lim_bit _ _ _ _ _ _).mpr ⟨q, q1, q2, by omega, by omega, rfl⟩⟩
    · omega
theorem limN_lt (T hF xF : Int → Int) (t : Int) (h0 : ∀ p, 0 ≤ hF p) (h1 : ∀ p, 0 ≤ xF p) (n : Nat) : limN T hF xF t n < 65536 := by
  induction n with
  | zero => show 0 < 65536; decide
  | succ n ih =>
    unfold limN
    split
    · next h =>
      have := h0 n
      have := h1 n
      exact Nat.or_lt_two_pow (n := 16) ih (Nat.pow_lt_pow_right (by decide) (by omega))
    · exact ih
/-- whether all notes but the rests have a play within limits -/
def plB (s : Int → Int) (hv cr : Int) : Nat → Bool
  | 0 => true
  | k + 1 => plB s hv cr k && (decide (wTu s k = -1) || decide ((EP (wTE s hv cr) (2 * 3 ^ wH s) (wTu s k)).length ≠ 0))
theorem plB_not {s : Int → Int} {hv cr : Int} {k n : Nat} (hk : k < n) (h1 : wTu s k ≠ -1) (h2 : (EP (wTE s hv cr) (2 * 3 ^ wH s) (wTu s k)).length = 0) : plB s hv cr n = false := by
  induction n with
  | zero => omega
  | succ n ih =>
    unfold plB
    by_cases e : k = n
    · subst e
      rw [decide_eq_false h1, decide_eq_false (fun z => z h2), Bool.or_self, Bool.and_false]
    · rw [ih (by omega), Bool.false_and]
theorem isPlayableWithin_ok {B : Int} {s : Int → Int} {hv cr : Nat} (ho : SOK B s) (hc : CSt σ 1 s) (hCh : ChO σ 24 (wTe s) (wT s) ((3 ^ wH s : Nat) : Int) (2 * 3 ^ wH s)) (hv2 : hv ≤ 2) (cr3 : cr ≤ 3) : Fw g zX5_isPlayableWithin [.ref 0, iv (hv : Int), iv (cr : Int)] σ l (bv (plB s hv cr (wN s) = true)) := by
  have hn40 := ho.n40
  refine Fn.of [some (.ref 0), some (iv (hv : Int)), some (iv (cr : Int)), none, none] rfl (by decide) (Nat.le_of_ble_eq_true rfl) rfl ?_
  have loop : ∀ q, q ≤ wN s → ∀ (i : Int) (u4 : Option Value), i = (q : Int) → plB s hv cr q = true → FW g zX5_isPlayableWithin 0 0 (fun q σ' l' => q = .inl (some (bv (plB s hv cr (wN s) = true))) ∧ σ' = σ ∧ l' = l) 2 [some (.ref 0), some (iv (hv : Int)), some (iv (cr : Int)), some (iv i), u4] [] σ l := by
    refine loopUp _ (fun q hq2 ih i u4 hi hpl => ?_)
    subst hi
    refine g_iload3 dX5_isPlayableWithin_2 ?_
    refine g_aload0 dX5_isPlayableWithin_3 ?_
    refine f_getr (r := 1) rfl (by decide) rfl rfl fl_X5_10 dX5_isPlayableWithin_4 ?_
    refine f_geti (J := 9) rfl (by decide) rfl rfl fl_X5_101 dX5_isPlayableWithin_7 ?_
    rw [hc.f9, ho.nI]
    refine g_icmp_ge ⟨by omega, by omega⟩ ⟨by omega, by omega⟩ (tgt := 54) dX5_isPlayableWithin_10 rfl (fun h10 => ?_) (fun h10 => ?_)
    · refine g_iconst dX5_isPlayableWithin_54 ?_
      refine g_iretB (Or.inr rfl) rfl dX5_isPlayableWithin_55 ?_
      have e9 : q = wN s := by omega
      subst e9
      exact Fw.ret (by rw [if_pos hpl])
    · refine g_aload0 dX5_isPlayableWithin_13 ?_
      refine f_getr (r := 1) rfl (by decide) rfl rfl fl_X5_10 dX5_isPlayableWithin_14 ?_
      refine f_getr (r := 4) rfl (by decide) rfl rfl fl_X5_242 dX5_isPlayableWithin_17 ?_
      refine g_iload3 dX5_isPlayableWithin_20 ?_
      refine f_cS2w (atI rfl (by decide) (by omega) (by show (q : Int) < (40 : Nat); omega)) oY_X5_at oT_X5_at lk_X5_164 rfl dX5_isPlayableWithin_21 rfl (Or.inl rfl) ?_
      rw [hc.tu q (by omega) (by rw [ho.nI]; omega)]
      have ht := ho.tune q (by omega) (by rw [ho.nI]; omega)
      refine g_istore4 dX5_isPlayableWithin_24 rfl (by decide) ?_
      refine g_iload4 dX5_isPlayableWithin_26 ?_
      refine g_iconst dX5_isPlayableWithin_28 ?_
      refine g_icmp_eq ⟨by omega, by omega⟩ ⟨by decide, by decide⟩ (tgt := 48) dX5_isPlayableWithin_29 rfl (fun h29 => ?_) (fun h29 => ?_)
      · refine g_iinc3 dX5_isPlayableWithin_48 rfl (by decide) ?_
        refine g_goto (tgt := 2) dX5_isPlayableWithin_51 rfl ?_
        first
          | exact ih (by omega) _ _ (by push_cast; omega) (by rw [plB, hpl, decide_eq_true h29]; rfl)
          | exact ih (by omega) _ _ (by push_cast; omega) (by rw [plB, hpl, decide_eq_true ((pos_EP ⟨by omega, by omega⟩ hv2 cr3).mp h43), Bool.or_true]; rfl)
      · refine g_aload0 dX5_isPlayableWithin_32 ?_
        refine f_getr (r := 24) rfl (by decide) rfl rfl fl_X5_60 dX5_isPlayableWithin_33 ?_
        refine g_iload4 dX5_isPlayableWithin_36 ?_
        refine g_iload1 dX5_isPlayableWithin_38 ?_
        refine g_iload2 dX5_isPlayableWithin_39 ?_
        refine f_cV3w (isPossible_ok isCh24 ⟨by omega, by omega⟩ (hCh.2.2.2 _ (by omega) (by omega)) (limN_lt _ _ _ _ (fun p => (hvF_rng _).1) (fun p => (crF_rng _).1) _) hv2 cr3) rfl (by decide) rfl oY_X0_isPossible oI_X0_isPossible lk_X5_332 rfl dX5_isPlayableWithin_40 rfl (Or.inl rfl) ?_
        refine g_ifneB (tgt := 48) dX5_isPlayableWithin_43 rfl (fun h43 => ?_) (fun h43 => ?_)
        · refine g_iinc3 dX5_isPlayableWithin_48 rfl (by decide) ?_
          refine g_goto (tgt := 2) dX5_isPlayableWithin_51 rfl ?_
          first
            | exact ih (by omega) _ _ (by push_cast; omega) (by rw [plB, hpl, decide_eq_true h29]; rfl)
            | exact ih (by omega) _ _ (by push_cast; omega) (by rw [plB, hpl, decide_eq_true ((pos_EP ⟨by omega, by omega⟩ hv2 cr3).mp h43), Bool.or_true]; rfl)
        · refine g_iconst dX5_isPlayableWithin_46 ?_
          refine g_iretB (Or.inl rfl) rfl dX5_isPlayableWithin_47 ?_
          have hz : (EP (wTE s hv cr) (2 * 3 ^ wH s) (wTu s q)).length = 0 := Classical.byContradiction fun z => h43 ((pos_EP ⟨by omega, by omega⟩ hv2 cr3).mpr z)
          exact Fw.ret (by rw [if_neg (by rw [plB_not (k := q) (by omega) h29 hz]; decide)])
  refine g_iconst dX5_isPlayableWithin_0 ?_
  refine g_istore3 dX5_isPlayableWithin_1 rfl (by decide) ?_
  exact loop 0 (Nat.zero_le _) _ _ rfl rfl
/-- the first limits within which the tune can be played, by their sum -/
def lvI (s : Int → Int) (t : Nat) : Nat → Nat → Int
  | 0, _ => -1
  | f + 1, h => if 0 ≤ (t : Int) - (h : Int) ∧ (t : Int) - (h : Int) ≤ 3 ∧ plB s (h : Int) ((t : Int) - (h : Int)) (wN s) = true then 10 * (h : Int) + ((t : Int) - (h : Int)) else lvI s t f (h + 1)
def lvO (s : Int → Int) : Nat → Nat → Int
  | 0, _ => -1
  | f + 1, t => if lvI s t 3 0 = -1 then lvO s f (t + 1) else lvI s t 3 0
theorem level_ok {B : Int} {s : Int → Int} (hK : Kc σ l B s)  : Fq g zX5_level [.ref 0] σ l B s (iv (lvO s 6 0)) := by
  have ho := hK.ok
  have hc := hK.st
  have hp := p3_le ho.h7
  have hp0 := p3_pos (wH s)
  have hNn : 2 * 3 ^ wH s ≤ 4374 := by omega
  have hNe : ((2 * 3 ^ wH s : Nat) : Int) = 2 * ((3 ^ wH s : Nat) : Int) := by push_cast; rfl
  obtain ⟨L, hL, hF⟩ := freshen_ok (g := g) (lev := 2) hK ⟨by decide, by decide⟩
  refine ⟨L, hL, Fn.of [some (.ref 0), none, none, none] rfl (by decide) (Nat.le_of_ble_eq_true rfl) rfl ?_⟩
  refine g_aload0 dX5_level_0 ?_
  refine g_iconst dX5_level_1 ?_
  refine f_cV1m (hF) rfl (by decide) rfl oY_X5_freshen oI_X5_freshen lk_X5_178 rfl dX5_level_2 (Nat.le_refl _) (Nat.le_refl _) rfl (okFb_of rfl) (fun σ2 l2 h2 => ?_)
  obtain ⟨hq, K1, hv, hL1⟩ := h2
  have c1 := K1.st
  obtain ⟨F1, F2⟩ := K1.ca.p1 (by omega)
  have hfc := K1.ca.fc
  have hrw : ∀ p, 0 ≤ p → p < 2 * ((3 ^ wH s : Nat) : Int) → 0 ≤ fgF ((3 ^ wH s : Nat) : Int) p ∧ fgF ((3 ^ wH s : Nat) : Int) p < ((3 ^ wH s : Nat) : Int) := fun p a0 a1 => fgF_rng a0 a1
  obtain ⟨hCh, G2⟩ := K1.ca.p2 (by omega)
  have outer : ∀ f t : Nat, t + f = 6 → lvO s f t = lvO s 6 0 → ∀ (i : Int) (u2 u3 : Option Value), i = (t : Int) → FW g zX5_level (pcL l - pcL L - (pcL l - pcL L)) (psL l - psL L - (psL l - psL L)) (fun o τ l' => o = .inl (some (iv (lvO s 6 0))) ∧ Qf σ τ ∧ Kc τ l' B s ∧ LE2 L l') 7 [some (.ref 0), some (iv i), u2, u3] [] σ2 l2 := by
    intro f
    induction f with
    | zero =>
      intro t ht ho9 i u2 u3 hi
      subst hi
      refine g_iload1 dX5_level_7 ?_
      refine g_iconst dX5_level_8 ?_
      refine g_icmp_gt ⟨by omega, by omega⟩ ⟨by decide, by decide⟩ (tgt := 60) dX5_level_9 rfl (fun h9 => ?_) (fun h9 => absurd h9 (by omega))
      refine g_iconst dX5_level_60 ?_
      refine g_iretI rfl dX5_level_61 ?_
      exact Fq.ret (by rw [← ho9]; rfl) hq K1 hL1
    | succ f ihO =>
      intro t ht ho9 i u2 u3 hi
      subst hi
      rw [lvO] at ho9
      have inner : ∀ f2 h : Nat, h + f2 = 3 → lvI s t f2 h = lvI s t 3 0 → ∀ (i2 : Int) (u3 : Option Value), i2 = (h : Int) → FW g zX5_level (pcL l - pcL L - (pcL l - pcL L)) (psL l - psL L - (psL l - psL L)) (fun o τ l' => o = .inl (some (iv (lvO s 6 0))) ∧ Qf σ τ ∧ Kc τ l' B s ∧ LE2 L l') 14 [some (.ref 0), some (iv (t : Int)), some (iv i2), u3] [] σ2 l2 := by
        intro f2
        induction f2 with
        | zero =>
          intro h hh he i2 u3 hi2
          subst hi2
          rw [lvI] at he
          refine g_iload2 dX5_level_14 ?_
          refine g_iconst dX5_level_15 ?_
          refine g_icmp_gt ⟨by omega, by omega⟩ ⟨by decide, by decide⟩ (tgt := 54) dX5_level_16 rfl (fun h16 => ?_) (fun h16 => absurd h16 (by omega))
          refine g_iinc1 dX5_level_54 rfl (by decide) ?_
          refine g_goto (tgt := 7) dX5_level_57 rfl ?_
          refine ihO (t + 1) (by omega) ?_ _ _ _ (by push_cast; omega)
          rw [← ho9, if_pos he.symm]
        | succ f2 ihI =>
          intro h hh he i2 u3 hi2
          subst hi2
          rw [lvI] at he
          refine g_iload2 dX5_level_14 ?_
          refine g_iconst dX5_level_15 ?_
          refine g_icmp_gt ⟨by omega, by omega⟩ ⟨by decide, by decide⟩ (tgt := 54) dX5_level_16 rfl (fun h16 => absurd h16 (by omega)) (fun h16 => ?_)
          refine g_iload1 dX5_level_19 ?_
          refine g_iload2 dX5_level_20 ?_
          refine g_isub dX5_level_21 ?_
          refine g_istore3 dX5_level_22 rfl (by decide) ?_
          refine g_iload3 dX5_level_23 ?_
          refine g_if_lt ⟨by omega, by omega⟩ (tgt := 48) dX5_level_24 rfl (fun h24 => ?_) (fun h24 => ?_)
          · refine g_iinc2 dX5_level_48 rfl (by decide) ?_
            refine g_goto (tgt := 14) dX5_level_51 rfl ?_
            refine ihI (h + 1) (by omega) ?_ _ _ (by push_cast; omega)
            rw [← he]
            first
              | rw [if_neg (fun z => by omega)]
              | rw [if_neg (fun z => h38 z.2.2)]
          · refine g_iload3 dX5_level_27 ?_
            refine g_iconst dX5_level_28 ?_
            refine g_icmp_gt ⟨by omega, by omega⟩ ⟨by decide, by decide⟩ (tgt := 48) dX5_level_29 rfl (fun h29 => ?_) (fun h29 => ?_)
            · refine g_iinc2 dX5_level_48 rfl (by decide) ?_
              refine g_goto (tgt := 14) dX5_level_51 rfl ?_
              refine ihI (h + 1) (by omega) ?_ _ _ (by push_cast; omega)
              rw [← he]
              first
                | rw [if_neg (fun z => by omega)]
                | rw [if_neg (fun z => h38 z.2.2)]
            · obtain ⟨cr, hcr⟩ : ∃ cr : Nat, (t : Int) - (h : Int) = (cr : Int) := ⟨t - h, by omega⟩
              rw [hcr]
              rw [hcr] at he
              refine g_aload0 dX5_level_32 ?_
              refine g_iload2 dX5_level_33 ?_
              refine g_iload3 dX5_level_34 ?_
              refine f_cV2w (isPlayableWithin_ok (hv := h) (cr := cr) ho c1 hCh (by omega) (by omega)) rfl (by decide) rfl oY_X5_isPlayableWithin oI_X5_isPlayableWithin lk_X5_276 rfl dX5_level_35 rfl (Or.inl rfl) ?_
              refine g_ifeqB (tgt := 48) dX5_level_38 rfl (fun h38 => ?_) (fun h38 => ?_)
              · refine g_iinc2 dX5_level_48 rfl (by decide) ?_
                refine g_goto (tgt := 14) dX5_level_51 rfl ?_
                refine ihI (h + 1) (by omega) ?_ _ _ (by push_cast; omega)
                rw [← he]
                first
                  | rw [if_neg (fun z => by omega)]
                  | rw [if_neg (fun z => h38 z.2.2)]
              · refine g_bipush dX5_level_41 (by decide) ?_
                refine g_iload2 dX5_level_43 ?_
                refine g_imul dX5_level_44 ?_
                refine g_iload3 dX5_level_45 ?_
                refine g_iadd dX5_level_46 ?_
                refine g_iretI rfl dX5_level_47 ?_
                rw [if_pos ⟨by omega, by omega, h38⟩] at he
                have hne : lvI s t 3 0 ≠ -1 := by rw [← he]; omega
                rw [if_neg hne, ← he] at ho9
                exact Fq.ret (by rw [← ho9, Int.mul_comm]) hq K1 hL1
      refine g_iload1 dX5_level_7 ?_
      refine g_iconst dX5_level_8 ?_
      refine g_icmp_gt ⟨by omega, by omega⟩ ⟨by decide, by decide⟩ (tgt := 60) dX5_level_9 rfl (fun h9 => absurd h9 (by omega)) (fun h9 => ?_)
      refine g_iconst dX5_level_12 ?_
      refine g_istore2 dX5_level_13 rfl (by decide) ?_
      exact inner 3 0 rfl rfl _ _ rfl
  refine g_iconst dX5_level_5 ?_
  refine g_istore1 dX5_level_6 rfl (by decide) ?_
  exact outer 6 0 rfl rfl _ _ _ rfl
end C53
