/-! The class's invariant: the state at hand, those before it -/
section C54
variable {g : gT} {σ : sT} {l : Nat → Nat}
/-- what of two states is the same, as far as what is reckoned at a level needs it -/
def Ag (f : Int) (s t : Int → Int) : Prop := (1 ≤ f → s 0 = t 0 ∧ s 1 = t 1 ∧ s 3 = t 3 ∧ ∀ k, 0 ≤ k → k < s 3 → wPl s k = wPl t k ∧ wSz s k = wSz t k) ∧ (2 ≤ f → s 2 = t 2 ∧ s 4 = t 4 ∧ s 5 = t 5) ∧ (3 ≤ f → s 6 = t 6 ∧ s 7 = t 7 ∧ s 8 = t 8 ∧ s 9 = t 9 ∧ ∀ k, 0 ≤ k → k < s 9 → wTu s k = wTu t k)
theorem Ag.refl (f : Int) (s : Int → Int) : Ag f s s := ⟨fun _ => ⟨rfl, rfl, rfl, fun _ _ _ => ⟨rfl, rfl⟩⟩, fun _ => ⟨rfl, rfl, rfl⟩, fun _ => ⟨rfl, rfl, rfl, rfl, fun _ _ _ => rfl⟩⟩
theorem Ag.symm {f : Int} {s t : Int → Int} (h : Ag f s t) : Ag f t s := by
  refine ⟨fun z => ?_, fun z => ?_, fun z => ?_⟩
  · obtain ⟨a, b, c, d⟩ := h.1 z
    exact ⟨a.symm, b.symm, c.symm, fun k k0 k1 => ⟨(d k k0 (by omega)).1.symm, (d k k0 (by omega)).2.symm⟩⟩
  · obtain ⟨a, b, c⟩ := h.2.1 z
    exact ⟨a.symm, b.symm, c.symm⟩
  · obtain ⟨a, b, c, d, e⟩ := h.2.2 z
    exact ⟨a.symm, b.symm, c.symm, d.symm, fun k k0 k1 => (e k k0 (by omega)).symm⟩
theorem Ag.trans {f : Int} {s t u : Int → Int} (h : Ag f s t) (h2 : Ag f t u) : Ag f s u := by
  refine ⟨fun z => ?_, fun z => ?_, fun z => ?_⟩
  · obtain ⟨a, b, c, d⟩ := h.1 z
    obtain ⟨a', b', c', d'⟩ := h2.1 z
    exact ⟨a.trans a', b.trans b', c.trans c', fun k k0 k1 => ⟨(d k k0 k1).1.trans (d' k k0 (by omega)).1, (d k k0 k1).2.trans (d' k k0 (by omega)).2⟩⟩
  · obtain ⟨a, b, c⟩ := h.2.1 z
    obtain ⟨a', b', c'⟩ := h2.2.1 z
    exact ⟨a.trans a', b.trans b', c.trans c'⟩
  · obtain ⟨a, b, c, d, e⟩ := h.2.2 z
    obtain ⟨a', b', c', d', e'⟩ := h2.2.2 z
    exact ⟨a.trans a', b.trans b', c.trans c', d.trans d', fun k k0 k1 => (e k k0 k1).trans (e' k k0 (by omega))⟩
theorem Ag.less {f f' : Int} {s t : Int → Int} (h : Ag f s t) (hf : f' ≤ f) : Ag f' s t := ⟨fun z => h.1 (by omega), fun z => h.2.1 (by omega), fun z => h.2.2 (by omega)⟩
theorem Ag.cen {f : Int} {s t : Int → Int} (h : Ag f s t) (h1 : 1 ≤ f) : wH s = wH t ∧ wLen s = wLen t ∧ wCen s = wCen t := by
  obtain ⟨a, b, c, d⟩ := h.1 h1
  have eH : wH s = wH t := by unfold wH; rw [c]
  have eL : wLen s = wLen t := by
    funext r
    unfold wLen
    rw [← a, ← b, ← eH]
    exact Lq_congr (fun k k0 k1 => d k k0 (by unfold wH at k1; omega)) _ (Nat.le_refl _) r
  refine ⟨eH, eL, ?_⟩
  funext r
  unfold wCen
  rw [eL, a, b]
theorem CA.carry {s t : Int → Int} {f f' : Int} (h : CA σ l s f) (h0 : 0 ≤ f') (h1 : f' ≤ f) (hA : Ag f' s t) : CA σ l t f' := by
  have hlv := h.lv
  refine ⟨h.c1, h.fc, h.fg, h.ce, h.e1, h.co, h.e2, h.a1, h.b1, h.a2, h.b2, h.cnt, ⟨h0, by omega⟩, fun z => ?_, fun z => ?_, fun z => ?_⟩
  · obtain ⟨eH, eL, eC⟩ := hA.cen z
    have p := h.p1 (by omega)
    unfold FPw at p ⊢
    rw [← eH, ← eL, ← eC]
    exact p
  · obtain ⟨eH, eL, eC⟩ := hA.cen (by omega)
    obtain ⟨a, b, c⟩ := hA.2.1 z
    have p := h.p2 (by omega)
    show ChO σ 24 (teP (wCen t) ((3 ^ wH t : Nat) : Int) (t 2) (t 4) (t 5)) (tnP (wCen t) ((3 ^ wH t : Nat) : Int) (t 2)) ((3 ^ wH t : Nat) : Int) (2 * 3 ^ wH t) ∧ 2 * 3 ^ wH t ≤ ln l 29
    rw [← eH, ← eC, ← a, ← b, ← c]
    exact p
  · obtain ⟨eH, eL, eC⟩ := hA.cen (by omega)
    obtain ⟨a, b, c⟩ := hA.2.1 (by omega)
    obtain ⟨a1, b1, c1, d1, e1⟩ := hA.2.2 z
    have p := h.p3 (by omega)
    have eN : wN s = wN t := by unfold wN; rw [d1]
    have et : ∀ k : Nat, k < wN s → wTu s k = wTu t k := fun k hk => e1 k (by omega) (by unfold wN at hk; omega)
    have eT : wTE t (t 4) (t 5) = wTE s (s 4) (s 5) := by
      show teP (wCen t) ((3 ^ wH t : Nat) : Int) (t 2) (t 4) (t 5) = teP (wCen s) ((3 ^ wH s : Nat) : Int) (s 2) (s 4) (s 5)
      rw [← eH, ← eC, ← a, ← b, ← c]
    have eCo : wCo t = wCo s := by
      show coD (t 6) (t 7) (t 8) (wH t) = coD (s 6) (s 7) (s 8) (wH s)
      rw [← eH, ← a1, ← b1, ← c1]
    rw [eT, eCo, ← eN, ← eH]
    refine WyO.congr et (fun _ _ => rfl) (fun k hk => ?_) p
    unfold wRw
    rw [← eH]
    exact frI_congr _ (fun j hj => by rw [et j (by omega)])
/-- the same row, as far as a row goes -/
def Rw (s t : Int → Int) : Prop := ∀ k, 0 ≤ k → k < 67 → s k = t k
theorem Rw.refl (s : Int → Int) : Rw s s := fun _ _ _ => rfl
theorem Rw.symm {s t : Int → Int} (h : Rw s t) : Rw t s := fun k a b => (h k a b).symm
theorem Rw.trans {s t u : Int → Int} (h : Rw s t) (h2 : Rw t u) : Rw s u := fun k a b => (h k a b).trans (h2 k a b)
theorem Rw.pl {s t : Int → Int} (h : Rw s t) {k : Int} (h0 : 0 ≤ k) (h1 : k < 7) : wPl s k = wPl t k ∧ wSz s k = wSz t k := ⟨h _ (by omega) (by omega), h _ (by omega) (by omega)⟩
theorem Rw.tu {s t : Int → Int} (h : Rw s t) {k : Int} (h0 : 0 ≤ k) (h1 : k < 40) : wTu s k = wTu t k := h _ (by omega) (by omega)
theorem Rw.ag {s t : Int → Int} (h : Rw s t) (h3 : s 3 ≤ 7) (h9 : s 9 ≤ 40) (f : Int) : Ag f s t := ⟨fun _ => ⟨h 0 (by decide) (by decide), h 1 (by decide) (by decide), h 3 (by decide) (by decide), fun k k0 k1 => h.pl k0 (by omega)⟩, fun _ => ⟨h 2 (by decide) (by decide), h 4 (by decide) (by decide), h 5 (by decide) (by decide)⟩, fun _ => ⟨h 6 (by decide) (by decide), h 7 (by decide) (by decide), h 8 (by decide) (by decide), h 9 (by decide) (by decide), fun k k0 k1 => h.tu k0 (by omega)⟩⟩
theorem SOK.rw {B : Int} {s t : Int → Int} (h : SOK B s) (r : Rw s t) : SOK B t := by
  have e : ∀ k : Nat, k < 13 → t k = s k := fun k hk => (r k (by omega) (by omega)).symm
  have eH : wH t = wH s := by unfold wH; rw [show t 3 = s 3 from e 3 (by decide)]
  have h3 := h.holes
  have h9 := h.notes
  refine ⟨?_, ?_, ?_, ?_, ?_, ?_, ?_, ?_, ?_, ?_, ?_, ?_, ?_, fun k a0 a1 => ?_, fun k a0 a1 => ?_⟩
  · rw [show t 0 = s 0 from e 0 (by decide)]; exact h.len
  · rw [show t 1 = s 1 from e 1 (by decide)]; exact h.bore
  · rw [show t 2 = s 2 from e 2 (by decide)]; exact h.tol
  · rw [show t 3 = s 3 from e 3 (by decide)]; exact h.holes
  · rw [show t 4 = s 4 from e 4 (by decide)]; exact h.halves
  · rw [show t 5 = s 5 from e 5 (by decide)]; exact h.crosses
  · rw [show t 6 = s 6 from e 6 (by decide)]; exact h.move
  · rw [show t 7 = s 7 from e 7 (by decide)]; exact h.half
  · rw [show t 8 = s 8 from e 8 (by decide)]; exact h.breath
  · rw [show t 9 = s 9 from e 9 (by decide)]; exact h.notes
  · rw [eH, show t 10 = s 10 from e 10 (by decide)]; exact h.play
  · rw [show t 11 = s 11 from e 11 (by decide)]; exact h.spent
  · rw [show t 12 = s 12 from e 12 (by decide), show t 9 = s 9 from e 9 (by decide)]; exact h.place
  · rw [show t 3 = s 3 from e 3 (by decide)] at a1
    rw [← (r.pl a0 (by omega)).1, ← (r.pl a0 (by omega)).2]
    exact h.hol k a0 a1
  · rw [show t 9 = s 9 from e 9 (by decide)] at a1
    rw [← r.tu a0 (by omega)]
    exact h.tune k a0 a1
theorem CSt.rw {b : Nat} {s t : Int → Int} (h : CSt σ b s) (r : Rw s t) (h3 : s 3 ≤ 7) (h9 : s 9 ≤ 40) : CSt σ b t := by
  have e : ∀ k : Nat, k < 13 → s k = t k := fun k hk => r k (by omega) (by omega)
  have e3 : s 3 = t 3 := e 3 (by decide)
  have e9 : s 9 = t 9 := e 9 (by decide)
  exact ⟨h.f0.trans (e 0 (by decide)), h.f1.trans (e 1 (by decide)), h.f2.trans (e 2 (by decide)), h.f3.trans (e 4 (by decide)), h.f4.trans (e 5 (by decide)), h.f5.trans (e 6 (by decide)), h.f6.trans (e 7 (by decide)), h.f7.trans (e 8 (by decide)), h.f8.trans e3, h.f9.trans e9, h.f10.trans (e 10 (by decide)), h.f11.trans (e 11 (by decide)), h.f12.trans (e 12 (by decide)), fun k a0 a1 => (h.pl k a0 (by omega)).trans (r.pl a0 (by omega)).1, fun k a0 a1 => (h.sz k a0 (by omega)).trans (r.pl a0 (by omega)).2, fun k a0 a1 => (h.tu k a0 (by omega)).trans (r.tu a0 (by omega))⟩
theorem Kc.rw {B : Int} {s t : Int → Int} (h : Kc σ l B s) (r : Rw s t) : Kc σ l B t := ⟨h.ok.rw r, h.st.rw r h.ok.holes.2 h.ok.notes.2, h.ca.carry h.ca.lv.1 (Int.le_refl _) (r.ag h.ok.holes.2 h.ok.notes.2 _)⟩
theorem CSt.cp {p o : Nat} {s : Int → Int} (h : CSt σ p s) : CSt (cpSt σ p o) o s := by
  have e : ∀ b : Int, 0 ≤ b → b < 13 → cpSt σ p o o b = σ p b := fun b b0 b1 => by unfold cpSt; rw [if_pos rfl, if_pos ⟨b0, b1⟩]
  have e8 := h.f8
  have e9 := h.f9
  exact ⟨(e 0 (by decide) (by decide)).trans h.f0, (e 1 (by decide) (by decide)).trans h.f1, (e 2 (by decide) (by decide)).trans h.f2, (e 3 (by decide) (by decide)).trans h.f3, (e 4 (by decide) (by decide)).trans h.f4, (e 5 (by decide) (by decide)).trans h.f5, (e 6 (by decide) (by decide)).trans h.f6, (e 7 (by decide) (by decide)).trans h.f7, (e 8 (by decide) (by decide)).trans h.f8, (e 9 (by decide) (by decide)).trans h.f9, (e 10 (by decide) (by decide)).trans h.f10, (e 11 (by decide) (by decide)).trans h.f11, (e 12 (by decide) (by decide)).trans h.f12, fun k a0 a1 => by unfold cpSt; rw [if_neg (by omega), if_pos rfl, if_pos ⟨a0, by omega⟩]; exact h.pl k a0 a1, fun k a0 a1 => by unfold cpSt; rw [if_neg (by omega), if_neg (by omega), if_pos rfl, if_pos ⟨a0, by omega⟩]; exact h.sz k a0 a1, fun k a0 a1 => by unfold cpSt; rw [if_neg (by omega), if_neg (by omega), if_neg (by omega), if_pos rfl, if_pos ⟨a0, by omega⟩]; exact h.tu k a0 a1⟩
/-- the slot of the j-th of n states before -/
def sl (i n j : Nat) : Nat := (i + 8 - n + j) % 8
def Ic (σ : sT) (l : Nat → Nat) (B : Int) (s : Int → Int) (n : Nat) (P : Nat → Int → Int) : Prop := Kc σ l B s ∧ (∃ i : Nat, i < 8 ∧ σ 0 3 = (i : Int) ∧ ∀ j, j < n → SOK B (P j) ∧ CSt σ (52 + 4 * sl i n j) (P j) ∧ (0 ≤ σ 6 (sl i n j) ∧ σ 6 (sl i n j) ≤ 3) ∧ Ag (σ 6 (sl i n j)) (if j + 1 < n then P (j + 1) else s) (P j)) ∧ σ 0 4 = (n : Int) ∧ n ≤ 8
theorem Ic.K {B : Int} {s : Int → Int} {n : Nat} {P : Nat → Int → Int} (h : Ic σ l B s n P) : Kc σ l B s := h.1
/-- what is reckoned may come anew, what is before stays -/
theorem Ic.q {τ : sT} {l' : Nat → Nat} {B : Int} {s : Int → Int} {n : Nat} {P : Nat → Int → Int} (h : Ic σ l B s n P) (hq : Qf σ τ) (hK : Kc τ l' B s) : Ic τ l' B s n P := by
  obtain ⟨_, ⟨i, hi, h3, hp⟩, h4, h8⟩ := h
  refine ⟨hK, ⟨i, hi, by rw [hq.2 3 (by decide)]; exact h3, fun j hj => ?_⟩, by rw [hq.2 4 (by decide)]; exact h4, h8⟩
  obtain ⟨p1, p2, p3, p4⟩ := hp j hj
  have e6 : τ 6 = σ 6 := hq.1 6 (by decide) (Or.inl (by decide))
  rw [e6]
  exact ⟨p1, p2.frame (hq.1 _ (by omega) (Or.inr (by omega))) (hq.1 _ (by omega) (Or.inr (by omega))) (hq.1 _ (by omega) (Or.inr (by omega))) (hq.1 _ (by omega) (Or.inr (by omega))), p3, p4⟩
/-- the state at hand comes anew, nothing of it that what is reckoned needs -/
theorem Ic.set {τ : sT} {B B' : Int} {s t : Int → Int} {n : Nat} {P : Nat → Int → Int} (h : Ic σ l B s n P) (hτ : ∀ a, a < 1 ∨ 4 < a → τ a = σ a) (hB : B ≤ B') (ho : SOK B' t) (hc : CSt τ 1 t) (hA : Ag 3 t s) : Ic τ l B' t n P := by
  obtain ⟨hK, ⟨i, hi, h3, hp⟩, h4, h8⟩ := h
  have hlv := hK.ca.lv
  refine ⟨⟨ho, hc, ?_⟩, ⟨i, hi, by rw [hτ 0 (by decide)]; exact h3, fun j hj => ?_⟩, by rw [hτ 0 (by decide)]; exact h4, h8⟩
  · rw [hτ 0 (by decide)]
    exact (hK.ca.frame (fun a a0 a1 => hτ a (by omega)) (LE2.refl l)).carry hlv.1 (Int.le_refl _) (hA.symm.less hlv.2)
  · obtain ⟨p1, p2, p3, p4⟩ := hp j hj
    rw [hτ 6 (by decide)]
    refine ⟨p1.more hB, p2.frame (hτ _ (by omega)) (hτ _ (by omega)) (hτ _ (by omega)) (hτ _ (by omega)), p3, ?_⟩
    by_cases c : j + 1 < n
    · rw [if_pos c] at p4 ⊢; exact p4
    · rw [if_neg c] at p4 ⊢; exact (hA.less p3.2).trans p4
theorem Ic.more {B B' : Int} {s : Int → Int} {n : Nat} {P : Nat → Int → Int} (h : Ic σ l B s n P) (hB : B ≤ B') : Ic σ l B' s n P := h.set (fun _ _ => rfl) hB (h.K.ok.more hB) h.K.st (Ag.refl _ _)
theorem Ic.rw {B : Int} {s t : Int → Int} {n : Nat} {P Q : Nat → Int → Int} (h : Ic σ l B s n P) (r : Rw s t) (rP : ∀ j, j < n → Rw (P j) (Q j)) : Ic σ l B t n Q := by
  obtain ⟨hK, ⟨i, hi, h3, hp⟩, h4, h8⟩ := h
  refine ⟨hK.rw r, ⟨i, hi, h3, fun j hj => ?_⟩, h4, h8⟩
  obtain ⟨p1, p2, p3, p4⟩ := hp j hj
  refine ⟨p1.rw (rP j hj), p2.rw (rP j hj) p1.holes.2 p1.notes.2, p3, ?_⟩
  have a1 := (rP j hj).ag p1.holes.2 p1.notes.2 (σ 6 (sl i n j))
  by_cases c : j + 1 < n
  · rw [if_pos c] at p4 ⊢
    have q1 := (hp (j + 1) c).1
    exact (((rP (j + 1) c).ag q1.holes.2 q1.notes.2 _).symm.trans p4).trans a1
  · rw [if_neg c] at p4 ⊢
    exact ((r.ag hK.ok.holes.2 hK.ok.notes.2 _).symm.trans p4).trans a1
/-- how many states lie before, and which, when one more is kept -/
def nP (n : Nat) : Nat := min (n + 1) 8
def pP (n : Nat) (s : Int → Int) (P : Nat → Int → Int) : Nat → Int → Int := fun j => if n < 8 then (if j = n then s else P j) else (if j = 7 then s else P (j + 1))
theorem Ic.rem {τ : sT} {B B' kp : Int} {s t : Int → Int} {n : Nat} {P : Nat → Int → Int} (h : Ic σ l B s n P) (hk : 0 ≤ kp ∧ kp ≤ 3) (hτ : ∀ a, a < 1 ∨ 4 < a → τ a = remS σ (σ 0 3).toNat kp a) (hc : CSt τ 1 t) (ho : SOK B' t) (hB : B ≤ B') (hA : Ag kp t s) : Ic τ l B' t (nP n) (pP n s P) := by
  obtain ⟨hK, ⟨i, hi, h3, hp⟩, h4, h8⟩ := h
  have hlv := hK.ca.lv
  rw [h3, Int.toNat_natCast] at hτ
  have e0 : ∀ a, a ≠ 0 → a ≠ 6 → a < 1 ∨ 4 < a → τ a = cpSt σ 1 (52 + 4 * i) a := fun a a0 a6 ha => by
    rw [hτ a ha]
    unfold remS
    rw [up_n a0, up_n a0, up_n a0, up_n a6]
  have eo : ∀ a, a ≠ 0 → a ≠ 6 → a < 1 ∨ 4 < a → a < 52 + 4 * i ∨ 52 + 4 * i + 3 < a → τ a = σ a := fun a a0 a6 ha hb => by rw [e0 a a0 a6 ha, cpSt_n hb]
  have t15 : τ 0 15 = min (σ 0 15) kp := by rw [hτ 0 (by decide)]; unfold remS; rw [up_eq]
  have t4 : τ 0 4 = ((nP n : Nat) : Int) := by
    rw [hτ 0 (by decide)]; unfold remS; rw [up_ne (by omega), up_eq, h4]; unfold nP; omega
  have t3 : τ 0 3 = (((i + 1) % 8 : Nat) : Int) := by
    rw [hτ 0 (by decide)]; unfold remS; rw [up_ne (by omega), up_ne (by omega), up_eq]; omega
  have t6 : ∀ m : Nat, τ 6 (m : Int) = if m = i then kp else σ 6 (m : Int) := fun m => by
    rw [hτ 6 (by decide)]
    unfold remS
    rw [up_n (by decide), up_n (by decide), up_n (by decide)]
    by_cases c : m = i
    · subst c; rw [if_pos rfl, up_eq]
    · rw [if_neg c, up_ne (by omega), cpSt_n (Or.inl (by omega))]
  refine ⟨⟨ho, hc, ?_⟩, ⟨(i + 1) % 8, by omega, t3, fun j hj => ?_⟩, t4, by unfold nP; omega⟩
  · rw [t15]
    exact ((hK.ca.frame (fun a a0 a1 => eo a (by omega) (by omega) (by omega) (by omega)) (LE2.refl l)).carry (by omega) (by omega) (hA.symm.less (by omega)))
  · unfold nP at hj
    by_cases cA : (n < 8 ∧ j = n) ∨ (n = 8 ∧ j = 7)
    · have es : sl ((i + 1) % 8) (nP n) j = i := by unfold sl nP; omega
      have ep : pP n s P j = s := by
        unfold pP
        rcases cA with c | c
        · rw [if_pos c.1, if_pos c.2]
        · rw [if_neg (by omega), if_pos c.2]
      rw [es, ep, t6 i, if_pos rfl, if_neg (by unfold nP; omega)]
      refine ⟨hK.ok.more hB, ?_, hk, hA⟩
      refine CSt.frame (σ := cpSt σ 1 (52 + 4 * i)) hK.st.cp (e0 _ (by omega) (by omega) (by omega)) (e0 _ (by omega) (by omega) (by omega)) (e0 _ (by omega) (by omega) (by omega)) (e0 _ (by omega) (by omega) (by omega))
    · have key : ∃ j0, j0 < n ∧ sl ((i + 1) % 8) (nP n) j = sl i n j0 ∧ sl i n j0 ≠ i ∧ sl i n j0 < 8 ∧ pP n s P j = P j0 ∧ (if j + 1 < nP n then pP n s P (j + 1) else t) = (if j0 + 1 < n then P (j0 + 1) else s) := by
        by_cases c8 : n < 8
        · refine ⟨j, by omega, by unfold sl nP; omega, by unfold sl; omega, by unfold sl; omega, by unfold pP; rw [if_pos c8, if_neg (by omega)], ?_⟩
          rw [if_pos (by unfold nP; omega)]
          unfold pP
          rw [if_pos c8]
          by_cases c9 : j + 1 < n
          · rw [if_neg (by omega), if_pos c9]
          · rw [if_pos (by omega), if_neg c9]
        · refine ⟨j + 1, by omega, by unfold sl nP; omega, by unfold sl; omega, by unfold sl; omega, by unfold pP; rw [if_neg c8, if_neg (by omega)], ?_⟩
          rw [if_pos (by unfold nP; omega)]
          unfold pP
          rw [if_neg c8]
          by_cases c9 : j + 1 + 1 < n
          · rw [if_neg (by omega), if_pos c9]
          · rw [if_pos (by omega), if_neg c9]
      obtain ⟨j0, k1, k2, k3, k4, k5, k6⟩ := key
      obtain ⟨p1, p2, p3, p4⟩ := hp j0 k1
      rw [k2, k5, k6, t6, if_neg k3]
      exact ⟨p1.more hB, p2.frame (eo _ (by omega) (by omega) (by omega) (by omega)) (eo _ (by omega) (by omega) (by omega) (by omega)) (eo _ (by omega) (by omega) (by omega) (by omega)) (eo _ (by omega) (by omega) (by omega) (by omega)), p3, p4⟩
/-- the latest of them comes back -/
theorem Ic.back {τ : sT} {B : Int} {s : Int → Int} {n : Nat} {P : Nat → Int → Int} {i : Nat} (h : Ic σ l B s (n + 1) P) (h3 : σ 0 3 = (i : Int)) (hτ : ∀ a, a ≠ 0 → τ a = cpSt σ (52 + 4 * ((i + 7) % 8)) 1 a) (t3 : τ 0 3 = (((i + 7) % 8 : Nat) : Int)) (t4 : τ 0 4 = (n : Int)) (t15 : τ 0 15 = min (σ 0 15) (σ 6 ((i + 7) % 8 : Nat))) : Ic τ l B (P n) n P := by
  obtain ⟨hK, ⟨i', hi, h3', hp⟩, h4, h8⟩ := h
  have hlv := hK.ca.lv
  have ei : i' = i := by omega
  subst ei
  have es : sl i' (n + 1) n = (i' + 7) % 8 := by unfold sl; omega
  obtain ⟨p1, p2, p3, p4⟩ := hp n (by omega)
  rw [es] at p2 p3 p4
  rw [if_neg (by omega)] at p4
  have eo : ∀ a, a ≠ 0 → 4 < a → τ a = σ a := fun a a0 ha => by rw [hτ a a0, cpSt_n (Or.inr (by omega))]
  refine ⟨⟨p1, ?_, ?_⟩, ⟨(i' + 7) % 8, by omega, t3, fun j hj => ?_⟩, t4, by omega⟩
  · exact CSt.frame (σ := cpSt σ (52 + 4 * ((i' + 7) % 8)) 1) p2.cp (hτ _ (by omega)) (hτ _ (by omega)) (hτ _ (by omega)) (hτ _ (by omega))
  · rw [t15]
    exact (hK.ca.frame (fun a a0 a1 => eo a (by omega) (by omega)) (LE2.refl l)).carry (by omega) (by omega) (p4.less (by omega))
  · have e2 : sl ((i' + 7) % 8) n j = sl i' (n + 1) j := by unfold sl; omega
    have e3 : sl i' (n + 1) j < 8 := by unfold sl; omega
    obtain ⟨r1, r2, r3, r4⟩ := hp j (by omega)
    rw [e2, eo 6 (by decide) (by decide)]
    refine ⟨r1, r2.frame (eo _ (by omega) (by omega)) (eo _ (by omega) (by omega)) (eo _ (by omega) (by omega)) (eo _ (by omega) (by omega)), r3, ?_⟩
    rw [if_pos (by omega)] at r4
    by_cases c : j + 1 < n
    · rw [if_pos c]; exact r4
    · have e9 : n = j + 1 := by omega
      subst e9
      rw [if_neg c]; exact r4
/-- all before is forgotten, the state comes from p -/
theorem Ic.repl {τ : sT} {B : Int} {s t : Int → Int} {n : Nat} {P Q : Nat → Int → Int} (h : Ic σ l B s n P) (hτ : ∀ a, a ≠ 0 → 4 < a → τ a = σ a) (hc : CSt τ 1 t) (ho : SOK B t) (t3 : τ 0 3 = σ 0 3) (t4 : τ 0 4 = 0) (t15 : τ 0 15 = 0) : Ic τ l B t 0 Q := by
  obtain ⟨hK, ⟨i, hi, h3, hp⟩, h4, h8⟩ := h
  have hlv := hK.ca.lv
  refine ⟨⟨ho, hc, ?_⟩, ⟨i, hi, by rw [t3]; exact h3, fun j hj => by omega⟩, t4, by omega⟩
  rw [t15]
  exact (hK.ca.frame (fun a a0 a1 => hτ a (by omega) (by omega)) (LE2.refl l)).carry (Int.le_refl _) hlv.1 ⟨fun z => by omega, fun z => by omega, fun z => by omega⟩
end C54
