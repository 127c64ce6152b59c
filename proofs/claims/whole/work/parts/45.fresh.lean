/-! The reckoning in words of the state's row; HoleWhistle.freshen -/
section C45
variable {g : gT} {σ : sT} {l : Nat → Nat}
theorem Fn.mono {y : yT} {k n : Nat} {as : List Value} {Ψ Ψ' : mO → sT → (Nat → Nat) → Prop} (h : Fn g y k n as σ l Ψ) (hm : ∀ o σ' l', Ψ o σ' l' → Ψ' o σ' l') : Fn g y k n as σ l Ψ' := by
  intro ν p e ha hf hc s m args below h1 h2 h3 h4
  obtain ⟨n', o, a1, a2, a3, a4⟩ := h ν p e ha hf hc s m args below h1 h2 h3 h4
  refine ⟨n', o, a1, a2, a3, ?_⟩
  rcases a4 with ⟨⟨v, M', ν', q1, ⟨σ', l', r1, r2⟩, q3⟩, L, q4⟩ | ⟨q, q1, E, ce, L, ⟨e', M', ν', x1, ⟨σ', l', r1, r2⟩, x3⟩, rest⟩
  · exact Or.inl ⟨⟨v, M', ν', q1, ⟨σ', l', r1, hm _ _ _ r2⟩, q3⟩, L, q4⟩
  · exact Or.inr ⟨q, q1, E, ce, L, ⟨e', M', ν', x1, ⟨σ', l', r1, hm _ _ _ r2⟩, x3⟩, rest⟩
theorem pit_rng {T : Int → Int} {len : Int} (h : 1000 * len ≤ T 0) : 0 ≤ pit T len ∧ pit T len ≤ 4800 := by
  have a1 := nd_ge T (1000 * len) 47 0 h
  have a2 := (quoF_rng (a := 100 * (T (nd T (1000 * len) 47 0) - 1000 * len)) (b := T (nd T (1000 * len) 47 0) - T ((nd T (1000 * len) 47 0 : Int) + 1)) (by omega)).1
  unfold pit
  omega
theorem wCen_rng {B : Int} {s : Int → Int} (ho : SOK B s) (r : Int) : 0 ≤ wCen s r ∧ wCen s r ≤ 4800 := by
  have b1 := Lq_rng ho.okB (w := 10 * s 0 + 6 * s 1) (by have := ho.len; have := ho.bore; omega) (wH s) (Nat.le_refl _) r
  refine pit_rng ?_
  show _ ≤ 1000 * (10 * s 0 + 6 * s 1)
  unfold wLen
  omega
theorem CSt.H {B : Int} {b : Nat} {s : Int → Int} (h : CSt σ b s) (ho : SOK B s) : σ b 8 = (wH s : Int) := by rw [h.f8, ho.hI]
theorem CSt.N {B : Int} {b : Nat} {s : Int → Int} (h : CSt σ b s) (ho : SOK B s) : σ b 9 = (wN s : Int) := by rw [h.f9, ho.nI]
theorem CSt.t4 {B : Int} {s : Int → Int} (h : CSt σ 1 s) (ho : SOK B s) : ∀ k, 0 ≤ k → k < (wN s : Int) → -1 ≤ σ 4 k ∧ σ 4 k ≤ 24 := fun k a0 a1 => by
  rw [← ho.nI] at a1
  have := h.tu k a0 a1
  rw [show (1 + 3 : Nat) = 4 from rfl] at this
  rw [this]
  exact ho.tune k a0 a1
theorem reckon_s {B : Int} {s : Int → Int} {f : Int} (ho : SOK B s) (hc : CSt σ 1 s) (ha : CA σ l s f) :
    Fu g zX1_reckon (if ln l 18 < 3 ^ wH s then 5 else 0) (if ln l 18 < 3 ^ wH s then 5 * 3 ^ wH s else 0) [.ref 17, .ref 1] σ l (fun τ l' => (∀ a, a < 17 ∨ 23 < a → τ a = σ a) ∧ FPw τ s ∧ FG τ (ln l' 18) ∧ FCap l' (ln l' 18) ∧ LE2 (gr1 (3 ^ wH s) l) l') := by
  have hB : okB (σ 1 1) (σ 2) (σ 3) (wH s) := ⟨by rw [hc.f1]; exact ho.bore.1, by rw [hc.f1]; exact ho.bore.2, ho.h7, fun k a0 a1 => by
    rw [← ho.hI] at a1
    rw [show σ 2 k = wPl s k from hc.pl k a0 a1, show σ 3 k = wSz s k from hc.sz k a0 a1]
    exact ho.hol k a0 a1⟩
  have hp := p3_le ho.h7
  have h0 := reckon_ok (g := g) (H := wH s) (C := ln l 18) hB (hc.H ho) (by rw [hc.f0]; exact ho.len) ha.fc ha.fg ha.c1.2
  refine Fn.mono h0 (fun q τ l' ⟨e, f1, f2, f3, f4, f5⟩ => ⟨e, f1, ?_, ?_, ?_, fun a => ?_⟩)
  · rw [hc.f0, hc.f1] at f2
    refine ⟨f2.1, fun r a0 a1 => ?_⟩
    have e1 : Lq (s 1) (σ 2) (σ 3) (10 * s 0 + 6 * s 1) (wH s) (wH s) r = wLen s r := Lq_congr (fun k b0 b1 => ⟨hc.pl k b0 (by rw [ho.hI]; exact b1), hc.sz k b0 (by rw [ho.hI]; exact b1)⟩) _ (Nat.le_refl _) r
    rw [f2.2.1 r a0 a1, f2.2.2 r a0 a1, e1]
    exact ⟨rfl, rfl⟩
  · rw [f3.1]; exact f4
  · rw [f3.1]; exact f3
  · rw [ln_gr1 (by omega)]
    by_cases h : 18 ≤ a ∧ a ≤ 22
    · rw [if_pos h]
      have h1 : a = 18 ∨ a = 19 ∨ a = 20 ∨ a = 21 ∨ a = 22 := by omega
      obtain ⟨x1, x2, x3, x4, x5⟩ := f3
      obtain ⟨y1, y2, y3, y4, y5⟩ := ha.fc
      rcases h1 with rfl | rfl | rfl | rfl | rfl
      · exact x1
      · rw [x2, y2]
      · rw [x3, y3]
      · rw [x4, y4]
      · rw [x5, y5]
    · rw [if_neg h]
      unfold ln
      rw [f5 a (by omega)]
theorem choose_s {B : Int} {s : Int → Int} {o : Nat} {hv cr : Int} (ho : SOK B s) (hs : isCh o) (hF : FPw σ s) (hFG : FG σ (ln l 18)) (hFC : FCap l (ln l 18)) (h18 : 3 ^ wH s ≤ ln l 18) (hCC : CCap l o (ln l (o + 5))) (hv9 : 0 ≤ hv ∧ hv ≤ 9) (cr9 : 0 ≤ cr ∧ cr ≤ 9) :
    Fu g zX0_choose (if ln l (o + 5) < 2 * 3 ^ wH s then 3 else 0) (if ln l (o + 5) < 2 * 3 ^ wH s then 3 * (2 * 3 ^ wH s) else 0) [.ref o, .ref 17, iv (s 2), iv hv, iv cr] σ l (fun τ l' => (∀ a, a < o + 1 ∨ o + 7 < a → τ a = σ a) ∧ ChO τ o (wTE s hv cr) (wT s) ((3 ^ wH s : Nat) : Int) (2 * 3 ^ wH s) ∧ CCap l' o (ln l' (o + 5)) ∧ LE2 (gr2 o (2 * 3 ^ wH s) l) l') := by
  have hp := p3_le ho.h7
  have hp0 := p3_pos (wH s)
  have hcen : ∀ r, 0 ≤ r → r < σ 17 0 → 0 ≤ σ 22 r ∧ σ 22 r ≤ 4800 := fun r a0 a1 => by
    rw [hF.1] at a1
    rw [(hF.2 r a0 a1).2]
    exact wCen_rng ho r
  have h0 := choose_ok (g := g) (N := 2 * 3 ^ wH s) (C := ln l 18) (C2 := ln l (o + 5)) (tol := s 2) (hv := hv) (cr := cr) hs (by rw [hF.1]; push_cast; rfl) (by rw [hF.1]; exact ⟨by omega, by omega, by omega⟩) hFC hFG hcen (by have := ho.tol; omega) hv9 cr9 hCC
  refine Fn.mono h0 (fun q τ l' ⟨e, f1, f2, f3, f4⟩ => ⟨e, f1, ?_, ?_, fun a => ?_⟩)
  · rw [hF.1] at f2
    refine ChO.congr (fun q hq => ?_) (fun q hq => ?_) f2
    · exact teP_congr (by omega) (by omega) (fun r a0 a1 => (hF.2 r a0 a1).2)
    · exact tnP_congr (by omega) (by omega) (fun r a0 a1 => (hF.2 r a0 a1).2)
  · rw [f3.1]; exact f3
  · rw [ln_gr2 hs (by omega)]
    by_cases h : o + 5 ≤ a ∧ a ≤ o + 7
    · rw [if_pos h]
      have h1 : a = o + 5 ∨ a = o + 6 ∨ a = o + 7 := by omega
      obtain ⟨x1, x2, x3⟩ := f3
      obtain ⟨y1, y2, y3⟩ := hCC
      rcases h1 with rfl | rfl | rfl
      · exact x1
      · rw [x2, y2]
      · rw [x3, y3]
    · rw [if_neg h]
      unfold ln
      rw [f4 a (by omega)]
theorem uRow_congr {tu tu' TE : Int → Int} {H n : Nat} {b : Int} (h : ∀ k : Nat, k < n → tu k = tu' k) {j : Nat} (hj : j < n) : uRow tu TE H n b j = uRow tu' TE H n b j := by
  unfold uRow
  by_cases e : j + 1 < n
  · have a1 := h j hj
    have a2 := h (j + 1) e
    push_cast at a2
    rw [a1, a2]
  · rw [show decide (j + 1 < n) = false from decide_eq_false e]
    simp
theorem uU_congr {tu tu' TE : Int → Int} {H n : Nat} {b : Int} (h : ∀ k : Nat, k < n → tu k = tu' k) : ∀ k, k ≤ n → uU tu TE H n b k = uU tu' TE H n b k := by
  intro k
  induction k with
  | zero => intro _; rfl
  | succ k ih =>
    intro hk
    unfold uU
    rw [ih (by omega), h k (by omega), uRow_congr h (by omega)]
theorem wRw_bd {s TE : Int → Int} {b : Int} (hH : wH s ≤ 7) (k : Nat) : 0 ≤ wRw s TE b k ∧ wRw s TE b k ≤ 4374 * k := by
  have hp := p3_le hH
  refine frI_bd k (fun j hj => ?_)
  split
  · omega
  · have : (EP TE (2 * 3 ^ wH s) (wTu s j + b)).length ≤ 2 * 3 ^ wH s := by
      unfold EP
      split
      · have a1 := EL_len TE (wTu s j + b) (2 * 3 ^ wH s)
        have a2 := cnI_rng TE (wTu s j + b) (2 * 3 ^ wH s)
        omega
      · exact Nat.zero_le _
    omega
theorem rwF_w {B : Int} {s TE T : Int → Int} {o : Nat} {b : Int} (ho : SOK B s) (hc : CSt σ 1 s) (hs : isCh o) (hCh : ChO σ o TE T ((3 ^ wH s : Nat) : Int) (2 * 3 ^ wH s)) : ∀ k, k ≤ wN s → rwF σ o b k = wRw s TE b k := by
  intro k hk
  have hp := p3_le ho.h7
  refine frI_congr k (fun j hj => ?_)
  have e : σ 4 j = wTu s j := hc.tu j (by omega) (by rw [ho.nI]; omega)
  unfold nC
  rw [e]
  by_cases h : wTu s j = -1
  · rw [if_pos h, if_pos h]
  · rw [if_neg h, if_neg h]
    obtain ⟨_, _, a1, _⟩ := tone_of (l := fun _ => 0) hs hCh (by omega) (wTu s j + b)
    exact a1
/-- how the rows of a way grow when it is found -/
def grW (w : Nat) (s TE : Int → Int) (b : Int) (l : Nat → Nat) : Nat → Nat := gr3 w (uU (wTu s) TE (wH s) (wN s) b (wN s)) (wRw s TE b (wN s)).toNat (2 * 3 ^ wH s) l
def kW (w : Nat) (s TE : Int → Int) (b : Int) (l : Nat → Nat) : Nat := (if ln l (w + 4) < (wRw s TE b (wN s)).toNat then 1 else 0) + (if uU (wTu s) TE (wH s) (wN s) b (wN s) = true ∧ ln l (w + 5) < 2 * 3 ^ wH s then 1 else 0)
def nW (w : Nat) (s TE : Int → Int) (b : Int) (l : Nat → Nat) : Nat := (if ln l (w + 4) < (wRw s TE b (wN s)).toNat then max (wRw s TE b (wN s)).toNat (2 * ln l (w + 4)) else 0) + (if uU (wTu s) TE (wH s) (wN s) b (wN s) = true ∧ ln l (w + 5) < 2 * 3 ^ wH s then 2 * 3 ^ wH s else 0)
theorem GrW {B : Int} {s TE : Int → Int} {w : Nat} {b : Int} (ho : SOK B s) (hw : isWy w) (hA : 2 ≤ ln l (w + 4) ∧ ln l (w + 4) ≤ 349920) : Gr l (grW w s TE b l) (kW w s TE b l) (nW w s TE b l) :=
  Gr3 hw ho.h7 (by have := wRw_bd (TE := TE) (b := b) ho.h7 (wN s); have := ho.n40; omega) hA
theorem find_s {B : Int} {s TE T : Int → Int} {w o : Nat} {b : Int} (ho : SOK B s) (hc : CSt σ 1 s) (hw : isWy w) (hs : isCh o) (hCh : ChO σ o TE T ((3 ^ wH s : Nat) : Int) (2 * 3 ^ wH s)) (hCC : CCap l o (ln l (o + 5))) (hln : 2 * 3 ^ wH s ≤ ln l (o + 5)) (hb : -12 ≤ b ∧ b ≤ 12) (hA : 2 ≤ ln l (w + 4) ∧ ln l (w + 4) ≤ 349920) :
    Fu g zX4_find (kW w s TE b l) (nW w s TE b l) [.ref w, .ref 1, .ref o, iv b] σ l (fun τ l' => (∀ a, a < w ∨ w + 5 < a → τ a = σ a) ∧ WyO τ l' w (wN s) (wH s) b (wCo s) (wTu s) TE (wRw s TE b) ∧ LE2 (grW w s TE b l) l') := by
  have hR := rwF_w (σ := σ) (b := b) ho hc hs hCh
  have hbd := wRw_bd (TE := TE) (b := b) ho.h7 (wN s)
  have hn40 := ho.n40
  have hp := p3_le ho.h7
  have htu : ∀ k : Nat, k < wN s → σ 4 k = wTu s k := fun k hk => hc.tu k (by omega) (by rw [ho.nI]; omega)
  have h0 := find_ok (g := g) (len := (wRw s TE b (wN s)).toNat) (A4 := ln l (w + 4)) (A5 := ln l (w + 5)) hw hs hCh (hc.H ho) ho.h7 (hc.N ho) ho.n40 (hc.t4 ho) hb (by rw [hCC.2.1]; exact hln) (by rw [hCC.2.2]; exact hln) (by rw [hc.f5]; have := ho.move; omega) (by rw [hc.f6]; have := ho.half; omega) (by rw [hc.f7]; exact ho.breath) (by rw [hR _ (Nat.le_refl _)]; omega) rfl rfl
  rw [uU_congr htu _ (Nat.le_refl _)] at h0
  refine Fn.mono h0 (fun q τ l' ⟨e, f1, f2, f3, f4, f5⟩ => ⟨e, f1, ?_, fun a => ?_⟩)
  · rw [hc.f5, hc.f6, hc.f7] at f2
    exact f2.congr htu (fun _ _ => rfl) hR
  · unfold grW
    rw [ln_gr3 hw (by omega) hA.2 (by omega)]
    by_cases h : a = w + 4
    · rw [if_pos h, h, f3]
    · rw [if_neg h]
      by_cases h2 : a = w + 5
      · rw [if_pos h2, h2, f4]
      · rw [if_neg h2]
        unfold ln
        rw [f5 a h h2]
end C45
