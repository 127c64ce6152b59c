/-! What holds between the calls; what a call owes -/
section C93
variable {g : gT} {σ τ : sT} {l : Nat → Nat}
/-- a row kept -/
def kr (σ : sT) (k : Nat) : Int → Int := fun j => σ 96 (67 * (k : Int) + j)
def Js (B : Int) (σ : sT) : Prop := ∀ k : Nat, k < 2 → (σ 8 k = 0 ∧ σ 97 k = 0) ∨ (σ 8 k = 1 ∧ σ 97 k = 1 ∧ SOK B (kr σ k) ∧ CSt σ (84 + 4 * k) (kr σ k))
def Jx (σ : sT) : Prop := ∃ N : Nat, TX (σ 105) N ∧ σ 92 15 = (N : Int) ∧ σ 9 1 = (N : Int) ∧ σ 10 = σ 105
def Je (σ : sT) : Prop := ∃ k st : Int, R32 k ∧ σ 9 2 = k ∧ σ 9 4 = st ∧ σ 92 20 = k ∧ σ 92 21 = (if k = 0 then -1 else st)
def Jo (σ : sT) : Prop := ∃ L : List Int, L.length ≤ 120 ∧ σ 0 9 = (L.length : Int) ∧ (∀ (j : Nat) (x : Int), L[j]? = some x → σ 16 j = x) ∧ σ 92 25 = (L.length : Int) ∧ ∀ (j : Nat) (x : Int), L[j]? = some x → σ 107 j = x
theorem Js.cg {B : Int} (h : Js B σ) (hf : ∀ a, a = 8 ∨ (84 ≤ a ∧ a ≤ 91) ∨ a = 96 ∨ a = 97 → τ a = σ a) : Js B τ := by
  intro k hk
  have e8 := hf 8 (by omega)
  have e97 := hf 97 (by omega)
  have ek : kr τ k = kr σ k := by unfold kr; rw [hf 96 (by omega)]
  rw [e8, e97, ek]
  rcases h k hk with h9 | ⟨h1, h2, h3, h4⟩
  · exact Or.inl h9
  · exact Or.inr ⟨h1, h2, h3, h4.frame (hf _ (by omega)) (hf _ (by omega)) (hf _ (by omega)) (hf _ (by omega))⟩
theorem Jx.cg (h : Jx σ) (h9 : τ 9 1 = σ 9 1) (h10 : τ 10 = σ 10) (h105 : τ 105 = σ 105) (h92 : τ 92 15 = σ 92 15) : Jx τ := by
  obtain ⟨N, b1, b2, b3, b4⟩ := h
  exact ⟨N, by rw [h105]; exact b1, h92.trans b2, h9.trans b3, by rw [h10, h105]; exact b4⟩
theorem Je.cg (h : Je σ) (h2 : τ 9 2 = σ 9 2) (h4 : τ 9 4 = σ 9 4) (h20 : τ 92 20 = σ 92 20) (h21 : τ 92 21 = σ 92 21) : Je τ := by
  obtain ⟨k, st, c1, c2, c3, c4, c5⟩ := h
  exact ⟨k, st, c1, h2.trans c2, h4.trans c3, h20.trans c4, h21.trans c5⟩
theorem Jo.cg (h : Jo σ) (h0 : τ 0 9 = σ 0 9) (h16 : τ 16 = σ 16) (h25 : τ 92 25 = σ 92 25) (h107 : τ 107 = σ 107) : Jo τ := by
  obtain ⟨L, d0, d1, d2, d3, d4⟩ := h
  exact ⟨L, d0, h0.trans d1, by rw [h16]; exact d2, h25.trans d3, by rw [h107]; exact d4⟩
def Jr (B : Int) (σ : sT) : Prop := Js B σ ∧ Jx σ ∧ Je σ ∧ Jo σ
theorem Jr.cg {B : Int} (h : Jr B σ) (hf : ∀ a, (8 ≤ a ∧ a ≤ 10) ∨ a = 16 ∨ (84 ≤ a ∧ a ≤ 91) ∨ a = 96 ∨ a = 97 ∨ a = 105 ∨ a = 107 → τ a = σ a) (h0 : τ 0 9 = σ 0 9) (h92 : ∀ j, j = 15 ∨ j = 20 ∨ j = 21 ∨ j = 25 → τ 92 j = σ 92 j) : Jr B τ :=
  ⟨h.1.cg (fun a ha => hf a (by omega)), h.2.1.cg (by rw [hf 9 (by omega)]) (hf 10 (by omega)) (hf 105 (by omega)) (h92 15 (by omega)), h.2.2.1.cg (by rw [hf 9 (by omega)]) (by rw [hf 9 (by omega)]) (h92 20 (by omega)) (h92 21 (by omega)), h.2.2.2.cg h0 (hf 16 (by omega)) (h92 25 (by omega)) (hf 107 (by omega))⟩
theorem Js.more {B C : Int} (h : Js B σ) (hB : B ≤ C) : Js C σ := fun k hk => (h k hk).imp id (fun z => ⟨z.1, z.2.1, z.2.2.1.more hB, z.2.2.2⟩)
theorem Jr.more {B C : Int} (h : Jr B σ) (hB : B ≤ C) : Jr C σ := ⟨h.1.more hB, h.2⟩
theorem Jr.mf {B : Int} (h : Jr B σ) (hf : MF σ τ) : Jr B τ := h.cg (fun a ha => hf.1 a (by omega) (by omega)) (hf.2 9 (by decide) (by decide) (by decide)) (fun j _ => by rw [hf.1 92 (by decide) (by decide)])
theorem Jr.md {B : Int} (h : Jr B σ) (hf : Md σ τ) : Jr B τ := h.cg (fun a ha => hf.1 a (by omega) (by omega)) (by rw [hf.1 0 (by decide) (by decide)]) (fun j hj => hf.2 j (by omega))
theorem Jr.ms {B : Int} {t : Int → Int} {n : Nat} {P : Nat → Int → Int} (h : Jr B σ) (hf : MS σ τ t n P) : Jr B τ := h.cg (fun a ha => hf.1 a (by omega) (by omega) (by omega) (by omega)) (by rw [hf.1 0 (by decide) (by decide) (by decide) (by decide)]) (fun j hj => hf.2.1 j (by omega) (by omega))
theorem Jr.u8 {B v : Int} (h : Jr B σ) : Jr B (up σ 108 0 v) := h.cg (fun a ha => up_n (by omega)) (by rw [up_n (by decide)]) (fun j hj => by rw [up_n (by decide)])
theorem Jr.u9 {B v : Int} (h : Jr B σ) : Jr B (up σ 109 0 v) := h.cg (fun a ha => up_n (by omega)) (by rw [up_n (by decide)]) (fun j hj => by rw [up_n (by decide)])
theorem Jr.th {B v : Int} (h : Jr B σ) : Jr B (up σ 92 6 v) := h.cg (fun a ha => up_n (by omega)) (by rw [up_n (by decide)]) (fun j hj => up_ne (fun z => by omega))
theorem Ic.cn {B : Int} {s : Int → Int} {n : Nat} {P : Nat → Int → Int} (h : Ic σ l B s n P) (hf : ∀ a, (1 ≤ a ∧ a ≤ 7) ∨ (17 ≤ a ∧ a < 84) → τ a = σ a) (h0 : ∀ j, j ≠ 9 → τ 0 j = σ 0 j) : Ic τ l B s n P := by
  obtain ⟨hK, ⟨i, hi, h3, hp⟩, h4, h8⟩ := h
  refine ⟨⟨hK.ok, hK.st.frame (hf _ (by decide)) (hf _ (by decide)) (hf _ (by decide)) (hf _ (by decide)), by rw [h0 15 (by decide)]; exact hK.ca.frame (fun a a0 a1 => hf a (by omega)) (LE2.refl l)⟩, ⟨i, hi, by rw [h0 3 (by decide)]; exact h3, fun j hj => ?_⟩, by rw [h0 4 (by decide)]; exact h4, h8⟩
  obtain ⟨p1, p2, p3, p4⟩ := hp j hj
  have e3 : sl i n j < 8 := by unfold sl; omega
  rw [hf 6 (by decide)]
  exact ⟨p1, p2.frame (hf _ (by omega)) (hf _ (by omega)) (hf _ (by omega)) (hf _ (by omega)), p3, p4⟩
theorem Ic.cg {B : Int} {s : Int → Int} {n : Nat} {P : Nat → Int → Int} (h : Ic σ l B s n P) (hf : ∀ a, a < 92 → τ a = σ a) : Ic τ l B s n P := h.cn (fun a ha => hf a (by omega)) (fun j _ => by rw [hf 0 (by decide)])
def Jv (B : Int) (σ : sT) (l : Nat → Nat) : Prop := (∃ n : Nat, Ic σ l B (σ 93) n (pr σ) ∧ σ 92 5 = (n : Int)) ∧ Jr B σ
theorem Jv.more {B C : Int} (h : Jv B σ l) (hB : B ≤ C) : Jv C σ l := by
  obtain ⟨⟨n, h1, h2⟩, h3⟩ := h
  exact ⟨⟨n, h1.more hB, h2⟩, h3.more hB⟩
theorem Jv.md {B : Int} (h : Jv B σ l) (hf : Md σ τ) : Jv B τ l := by
  obtain ⟨⟨n, h1, h2⟩, h3⟩ := h
  refine ⟨⟨n, ?_, (hf.2 5 (by decide)).trans h2⟩, h3.md hf⟩
  rw [hf.s rfl, hf.pr]
  exact h1.cg (fun a ha => hf.1 a (by omega) (by omega))
theorem Jv.u8 {B v : Int} (h : Jv B σ l) : Jv B (up σ 108 0 v) l := by
  obtain ⟨⟨n, h1, h2⟩, h3⟩ := h
  have ep : pr (up σ 108 0 v) = pr σ := by funext j k; show up σ 108 0 v 95 _ = _; rw [up_n (by decide)]; rfl
  refine ⟨⟨n, ?_, by rw [up_n (by decide)]; exact h2⟩, h3.u8⟩
  rw [ep, up_n (by decide)]
  exact h1.cg (fun a ha => up_n (by omega))
theorem Jv.u9 {B v : Int} (h : Jv B σ l) : Jv B (up σ 109 0 v) l := by
  obtain ⟨⟨n, h1, h2⟩, h3⟩ := h
  have ep : pr (up σ 109 0 v) = pr σ := by funext j k; show up σ 109 0 v 95 _ = _; rw [up_n (by decide)]; rfl
  refine ⟨⟨n, ?_, by rw [up_n (by decide)]; exact h2⟩, h3.u9⟩
  rw [ep, up_n (by decide)]
  exact h1.cg (fun a ha => up_n (by omega))
theorem Jv.th {B v : Int} (h : Jv B σ l) : Jv B (up σ 92 6 v) l := h.md ⟨fun a a0 _ => up_n a0, fun j hj => up_ne (fun z => hj z.2)⟩
theorem Jv.q {l' : Nat → Nat} {B : Int} (h : Jv B σ l) (hq : Qf σ τ) (hK : Kc τ l' B (σ 93)) : Jv B τ l' := by
  obtain ⟨⟨n, h1, h2⟩, h3⟩ := h
  have hf := MF.ofQ hq
  have ep : pr τ = pr σ := by funext j k; show τ 95 _ = σ 95 _; rw [hf.1 95 (by decide) (by decide)]
  refine ⟨⟨n, ?_, by rw [hf.1 92 (by decide) (by decide)]; exact h2⟩, h3.mf hf⟩
  rw [ep, hf.1 93 (by decide) (by decide)]
  exact h1.q hq hK
/-- behind an act of both -/
theorem Jv.ms {ρ : sT} {B B' : Int} {t : Int → Int} {n : Nat} {P : Nat → Int → Int} (hr : Jr B τ) (hI : Ic τ l B' t n P) (hM : MS τ ρ t n P) (hB : B ≤ B') : Jv B' ρ l := by
  refine ⟨⟨n, ?_, hM.2.2.1⟩, (hr.more hB).ms hM⟩
  have h1 := hI.cg (τ := ρ) (fun a ha => hM.1 a (by omega) (by omega) (by omega) (by omega))
  exact h1.rw hM.2.2.2.1.symm (fun j hj => (hM.2.2.2.2 j hj).symm)
theorem prf (f : ∀ a, 84 ≤ a → a ≠ 108 → τ a = σ a) : pr τ = pr σ := by funext j k; show τ 95 _ = σ 95 _; rw [f 95 (by decide) (by decide)]
theorem Jv.w {ρ υ : sT} {B : Int} {L : List Int} (h : Jv B σ l) (hO : Ow σ τ L) (e : ∀ a, a ≠ 108 → ρ a = τ a) (hM : Om ρ υ L) (hL : L.length ≤ 120) : Jv B υ l := by
  obtain ⟨⟨n, h1, h2⟩, h3, h4, h5, h6⟩ := h
  have fo : ∀ a, a ≠ 0 → a ≠ 16 → a ≠ 92 → a ≠ 107 → a ≠ 108 → υ a = σ a := fun a a0 a1 a2 a3 a4 => (hM.1 a a2 a3).trans ((e a a4).trans (hO.1 a a0 a1))
  have f0 : ∀ j, j ≠ 9 → υ 0 j = σ 0 j := fun j hj => by rw [hM.1 0 (by decide) (by decide), e 0 (by decide)]; exact hO.2.1 j hj
  have f92 : ∀ j, j ≠ 25 → j ≠ 6 → υ 92 j = σ 92 j := fun j j0 j1 => by rw [hM.2.1 j j0 j1, e 92 (by decide), hO.1 92 (by decide) (by decide)]
  have ep : pr υ = pr σ := by funext j k; show υ 95 _ = σ 95 _; rw [fo 95 (by decide) (by decide) (by decide) (by decide) (by decide)]
  have e9 := fo 9 (by decide) (by decide) (by decide) (by decide) (by decide)
  refine ⟨⟨n, ?_, (f92 5 (by decide) (by decide)).trans h2⟩, h3.cg (fun a ha => fo a (by omega) (by omega) (by omega) (by omega) (by omega)), h4.cg (by rw [e9]) (fo 10 (by decide) (by decide) (by decide) (by decide) (by decide)) (fo 105 (by decide) (by decide) (by decide) (by decide) (by decide)) (f92 15 (by decide) (by decide)), h5.cg (by rw [e9]) (by rw [e9]) (f92 20 (by decide) (by decide)) (f92 21 (by decide) (by decide)), ⟨L, hL, ?_, ?_, hM.2.2.1, hM.2.2.2⟩⟩
  · rw [ep, fo 93 (by decide) (by decide) (by decide) (by decide) (by decide)]
    exact h1.cn (fun a ha => fo a (by omega) (by omega) (by omega) (by omega) (by omega)) f0
  · rw [hM.1 0 (by decide) (by decide), e 0 (by decide)]; exact hO.2.2.1
  · intro j x hx
    rw [hM.1 16 (by decide) (by decide), e 16 (by decide)]; exact hO.2.2.2 j x hx
abbrev cB (c : Nat) : Int := 72 * (c : Int)
theorem cB_s (c : Nat) : cB c + 72 = cB (c + 1) := by unfold cB; omega
theorem cB_le (c : Nat) : cB c ≤ cB (c + 1) := by unfold cB; omega
theorem iv_nf (V : Int) : iv V = iv (Int32.ofInt V).toInt := by show Value.int _ = Value.int _; rw [Int32.ofInt_toInt]
theorem nf_R (V : Int) : R32 (Int32.ofInt V).toInt := ⟨by have := Int32.le_toInt (Int32.ofInt V); simpa using this, by have := Int32.toInt_lt (Int32.ofInt V); omega⟩
/-- what a pair of calls owes the law: the class's, through the helper, then the model's -/
def LwA (g : gT) (yc ym : yT) (asC asM : List Value) (Q : Int → Prop) (c : Nat) (σ : sT) (l : Nat → Nat) : Prop := ∃ (kc b : Int) (L : Nat → Nat) (RC : sT → (Nat → Nat) → Prop) (k2 n2 : Nat), (kc = 0 ∨ kc = 1 ∨ kc = 2) ∧ Q b ∧ Gr l L 0 0 ∧ k2 ≤ pcL l - pcL L + 1 ∧ n2 ≤ psL l - psL L + 6 ∧ Fn g yc k2 n2 asC σ l (fun o τ l' => o = .inl (some (iv kc)) ∧ RC τ l') ∧ ∀ τ l', RC τ l' → LE2 L l' ∧ Fn g ym 0 0 asM τ l' (fun o ω l'' => o = .inl (some (iv b)) ∧ l'' = l' ∧ ω 92 6 = kc ∧ (kc = 0 → ω 108 0 = b) ∧ Jv (cB (c + 1)) ω l')
/-- the same, without a helper: the same answer of both -/
def LwB (g : gT) (yc ym : yT) (asC asM : List Value) (c : Nat) (σ : sT) (l : Nat → Nat) (W : Value) : Prop := ∃ (L : Nat → Nat) (RC : sT → (Nat → Nat) → Prop) (k2 n2 : Nat), Gr l L 0 0 ∧ k2 ≤ pcL l - pcL L + 1 ∧ n2 ≤ psL l - psL L + 6 ∧ Fn g yc k2 n2 asC σ l (fun o τ l' => o = .inl (some W) ∧ RC τ l') ∧ ∀ τ l', RC τ l' → LE2 L l' ∧ Fn g ym 0 0 asM τ l' (fun o ω l'' => o = .inl (some W) ∧ l'' = l' ∧ Jv (cB (c + 1)) ω l')
theorem LwA.q {yX yc ym : yT} {asX asC asM : List Value} {c : Nat} {V : Int} (hJ : Jv (cB c) σ l) (hc : Fq g yX asX σ l (cB c) (σ 93) (iv V))
    (hh : ∀ (V : Int) (k n : Nat) (R : sT → (Nat → Nat) → Prop), R32 V → Fn g yX k n asX σ l (fun o τ l' => o = .inl (some (iv V)) ∧ R τ l') → Fn g yc k n asC σ l (fun o ω l' => o = .inl (some (iv 0)) ∧ ∃ τ, R τ l' ∧ ω = up τ 108 0 V))
    (hm : ∀ (τ : sT) (l' : Nat → Nat), (∀ a, 84 ≤ a → a ≠ 108 → τ a = σ a) → Fo g ym asM τ l' (iv V) 0) : LwA g yc ym asC asM R32 c σ l := by
  rw [iv_nf] at hc
  obtain ⟨L, hG, hF⟩ := hc
  refine ⟨0, _, L, _, _, _, Or.inl rfl, nf_R V, hG, Nat.le_succ _, Nat.le_add_right _ _, hh _ _ _ _ (nf_R V) hF, ?_⟩
  rintro ω l' ⟨τ, ⟨hq, hK, hL⟩, rfl⟩
  have hf := MF.ofQ hq
  have hm2 := hm (up τ 108 0 (Int32.ofInt V).toInt) l' (fun a a0 a1 => by rw [up_n a1]; exact hf.1 a (by omega) (by omega))
  rw [iv_nf] at hm2
  exact ⟨hL, Fn.mono hm2 (fun o ρ l'' h => ⟨h.1, h.2.1, h.2.2.2, fun _ => by rw [h.2.2.1.1 108 (by decide) (by decide), up_eq], ((hJ.q hq hK).u8.md h.2.2.1).more (cB_le c)⟩)⟩
/-- the same, the answer one of 0 and 1 -/
theorem LwA.z {yX yc ym : yT} {asX asC asM : List Value} {c : Nat} {V : Int} (hV : V = 0 ∨ V = 1) (hJ : Jv (cB c) σ l) (hc : Fq g yX asX σ l (cB c) (σ 93) (iv V))
    (hh : ∀ (V : Int) (k n : Nat) (R : sT → (Nat → Nat) → Prop), V = 0 ∨ V = 1 → Fn g yX k n asX σ l (fun o τ l' => o = .inl (some (iv V)) ∧ R τ l') → Fn g yc k n asC σ l (fun o ω l' => o = .inl (some (iv 0)) ∧ ∃ τ, R τ l' ∧ ω = up τ 108 0 V))
    (hm : ∀ (τ : sT) (l' : Nat → Nat), (∀ a, 84 ≤ a → a ≠ 108 → τ a = σ a) → Fo g ym asM τ l' (iv V) 0) : LwA g yc ym asC asM (fun b => b = 0 ∨ b = 1) c σ l := by
  obtain ⟨L, hG, hF⟩ := hc
  refine ⟨0, V, L, _, _, _, Or.inl rfl, hV, hG, Nat.le_succ _, Nat.le_add_right _ _, hh _ _ _ _ hV hF, ?_⟩
  rintro ω l' ⟨τ, ⟨hq, hK, hL⟩, rfl⟩
  have hf := MF.ofQ hq
  have hm2 := hm (up τ 108 0 V) l' (fun a a0 a1 => by rw [up_n a1]; exact hf.1 a (by omega) (by omega))
  exact ⟨hL, Fn.mono hm2 (fun o ρ l'' h => ⟨h.1, h.2.1, h.2.2.2, fun _ => by rw [h.2.2.1.1 108 (by decide) (by decide), up_eq], ((hJ.q hq hK).u8.md h.2.2.1).more (cB_le c)⟩)⟩
/-- both throw -/
theorem LwA.t {yc ym : yT} {asC asM : List Value} {Q : Int → Prop} {c : Nat} {kc : Int} (hk : kc = 1 ∨ kc = 2) (hQ : Q 0) (hJ : Jv (cB c) σ l) (hc : Fn g yc 1 6 asC σ l (fun o ω l' => o = .inl (some (iv kc)) ∧ ω = σ ∧ l' = l)) (hm : Fo g ym asM σ l (iv 0) kc) : LwA g yc ym asC asM Q c σ l := by
  refine ⟨kc, 0, l, fun ω l' => ω = σ ∧ l' = l, 1, 6, Or.inr hk, hQ, Gr.refl l, by omega, by omega, hc, ?_⟩
  rintro ω l' ⟨rfl, rfl⟩
  exact ⟨LE2.refl _, Fn.mono hm (fun o ρ l'' h => ⟨h.1, h.2.1, h.2.2.2, fun z => by omega, (hJ.md h.2.2.1).more (cB_le c)⟩)⟩
theorem LwA.m {yX yc ym : yT} {asX asC asM : List Value} {c : Nat} {V B' : Int} {t : Int → Int} {n : Nat} {P : Nat → Int → Int} (hJ : Jv (cB c) σ l) (hB : cB c ≤ B' ∧ B' ≤ cB (c + 1)) (hc : Fma g yX asX σ l (iv V) B' t n P)
    (hh : ∀ (V : Int) (k n : Nat) (R : sT → (Nat → Nat) → Prop), R32 V → Fn g yX k n asX σ l (fun o τ l' => o = .inl (some (iv V)) ∧ R τ l') → Fn g yc k n asC σ l (fun o ω l' => o = .inl (some (iv 0)) ∧ ∃ τ, R τ l' ∧ ω = up τ 108 0 V))
    (hm : ∀ (τ : sT) (l' : Nat → Nat), (∀ a, 84 ≤ a → a ≠ 108 → τ a = σ a) → Ms g ym asM τ l' (iv V) t n P) : LwA g yc ym asC asM R32 c σ l := by
  rw [iv_nf] at hc
  obtain ⟨L, hG, hF⟩ := hc
  refine ⟨0, _, L, _, _, _, Or.inl rfl, nf_R V, hG, Nat.le_succ _, Nat.le_add_right _ _, hh _ _ _ _ (nf_R V) hF, ?_⟩
  rintro ω l' ⟨τ, ⟨hf, hI, hL⟩, rfl⟩
  have hm2 := hm (up τ 108 0 (Int32.ofInt V).toInt) l' (fun a a0 a1 => by rw [up_n a1]; exact hf.1 a (by omega) (by omega))
  rw [iv_nf] at hm2
  refine ⟨hL, Fn.mono hm2 (fun o ρ l'' h => ⟨h.1, h.2.1, h.2.2.2, fun _ => by rw [h.2.2.1.1 108 (by decide) (by decide) (by decide) (by decide), up_eq], ?_⟩)⟩
  have h1 := Jv.ms (hJ.2.mf hf).u8 (hI.cg (τ := up τ 108 0 (Int32.ofInt V).toInt) (fun a ha => up_n (by omega))) h.2.2.1 hB.1
  exact h1.more hB.2
theorem LwB.q {yc ym : yT} {asC asM : List Value} {c : Nat} {W : Value} (hJ : Jv (cB c) σ l) (hc : Fq g yc asC σ l (cB c) (σ 93) W) (hm : ∀ (τ : sT) (l' : Nat → Nat), (∀ a, 84 ≤ a → a ≠ 108 → τ a = σ a) → ∃ e, Fo g ym asM τ l' W e) : LwB g yc ym asC asM c σ l W := by
  obtain ⟨L, hG, hF⟩ := hc
  refine ⟨L, _, _, _, hG, Nat.le_succ _, Nat.le_add_right _ _, hF, ?_⟩
  rintro τ l' ⟨hq, hK, hL⟩
  have hf := MF.ofQ hq
  obtain ⟨e, hm2⟩ := hm τ l' (fun a a0 a1 => hf.1 a (by omega) (by omega))
  exact ⟨hL, Fn.mono hm2 (fun o ρ l'' h => ⟨h.1, h.2.1, ((hJ.q hq hK).md h.2.2.1).more (cB_le c)⟩)⟩
theorem LwB.m {yc ym : yT} {asC asM : List Value} {c : Nat} {B' : Int} {W : Value} {t : Int → Int} {n : Nat} {P : Nat → Int → Int} (hJ : Jv (cB c) σ l) (hB : cB c ≤ B' ∧ B' ≤ cB (c + 1)) (hc : Fma g yc asC σ l W B' t n P)
    (hm : ∀ (τ : sT) (l' : Nat → Nat), (∀ a, 84 ≤ a → a ≠ 108 → τ a = σ a) → Ms g ym asM τ l' W t n P) : LwB g yc ym asC asM c σ l W := by
  obtain ⟨L, hG, hF⟩ := hc
  refine ⟨L, _, _, _, hG, Nat.le_succ _, Nat.le_add_right _ _, hF, ?_⟩
  rintro τ l' ⟨hf, hI, hL⟩
  have hm2 := hm τ l' (fun a a0 a1 => hf.1 a (by omega) (by omega))
  exact ⟨hL, Fn.mono hm2 (fun o ρ l'' h => ⟨h.1, h.2.1, (Jv.ms (hJ.2.mf hf) hI h.2.2.1 hB.1).more hB.2⟩)⟩
end C93
