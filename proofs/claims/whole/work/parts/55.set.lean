/-! The class's actions, the plain ones -/
section C55
variable {g : gT} {σ : sT} {l : Nat → Nat}
/-- what an action leaves -/
def MF (σ τ : sT) : Prop := (∀ a, 6 < a → (a < 17 ∨ 83 < a) → τ a = σ a) ∧ ∀ j, j ≠ 3 → j ≠ 4 → j ≠ 15 → τ 0 j = σ 0 j
theorem MF.refl (σ : sT) : MF σ σ := ⟨fun _ _ _ => rfl, fun _ _ _ _ => rfl⟩
theorem MF.trans {σ τ ρ : sT} (h1 : MF σ τ) (h2 : MF τ ρ) : MF σ ρ := ⟨fun a a0 a1 => (h2.1 a a0 a1).trans (h1.1 a a0 a1), fun j a b c => (h2.2 j a b c).trans (h1.2 j a b c)⟩
theorem MF.ofQ {σ τ : sT} (h : Qf σ τ) : MF σ τ := ⟨fun a a0 a1 => h.1 a (by omega) (by omega), fun j _ _ a => h.2 j a⟩
def Fma (g : gT) (y : yT) (as : List Value) (σ : sT) (l : Nat → Nat) (V : Value) (B : Int) (s : Int → Int) (n : Nat) (P : Nat → Int → Int) : Prop := ∃ L, Gr l L 0 0 ∧ Fn g y (pcL l - pcL L) (psL l - psL L) as σ l (fun o τ l' => o = .inl (some V) ∧ MF σ τ ∧ Ic τ l' B s n P ∧ LE2 L l')
/-- an action without a need of room -/
def Fs (g : gT) (y : yT) (as : List Value) (σ : sT) (l : Nat → Nat) (V : Value) (B : Int) (s : Int → Int) (n : Nat) (P : Nat → Int → Int) : Prop := Fn g y 0 0 as σ l (fun o τ l' => o = .inl (some V) ∧ MF σ τ ∧ Ic τ l B s n P ∧ l' = l)
theorem Fs.m {y : yT} {as : List Value} {V : Value} {B : Int} {s : Int → Int} {n : Nat} {P : Nat → Int → Int} (h : Fs g y as σ l V B s n P) : Fma g y as σ l V B s n P := by
  refine ⟨l, Gr.refl l, ?_⟩
  rw [Nat.sub_self, Nat.sub_self]
  exact Fn.mono h (fun o τ l' ⟨a, b, c, d⟩ => by subst d; exact ⟨a, b, c, LE2.refl _⟩)
theorem Fq.m {y : yT} {as : List Value} {V : Value} {B : Int} {s : Int → Int} {n : Nat} {P : Nat → Int → Int} (hI : Ic σ l B s n P) (h : Fq g y as σ l B s V) : Fma g y as σ l V B s n P := by
  obtain ⟨L, h1, h2⟩ := h
  exact ⟨L, h1, Fn.mono h2 (fun o τ l' ⟨a, b, c, d⟩ => ⟨a, MF.ofQ b, hI.q b c, d⟩)⟩
theorem remS_o {σ : sT} {i : Nat} {kp : Int} {a : Nat} (hi : i < 8) (h0 : a ≠ 0) (h6 : a ≠ 6) (h : a < 52 ∨ 83 < a) : remS σ i kp a = σ a := by
  unfold remS
  rw [up_n h0, up_n h0, up_n h0, up_n h6, cpSt_n (by omega)]
theorem MF.rem {τ : sT} {i : Nat} {kp : Int} (hi : i < 8) (hτ : ∀ a, a < 1 ∨ 4 < a → τ a = remS σ i kp a) : MF σ τ := by
  refine ⟨fun a a0 a1 => ?_, fun j j3 j4 j15 => ?_⟩
  · rw [hτ a (by omega), remS_o hi (by omega) (by omega) (by omega)]
  · rw [hτ 0 (by decide)]
    unfold remS
    rw [up_ne (by omega), up_ne (by omega), up_ne (by omega), up_n (by decide), cpSt_n (by omega)]
theorem Ic.i8 {B : Int} {s : Int → Int} {n : Nat} {P : Nat → Int → Int} (h : Ic σ l B s n P) : (σ 0 3).toNat < 8 ∧ σ 0 3 = ((σ 0 3).toNat : Int) := by
  obtain ⟨_, ⟨i, hi, h3, _⟩, _, _⟩ := h
  rw [h3, Int.toNat_natCast]
  exact ⟨hi, rfl⟩
theorem rem_s {B kp : Int} {s : Int → Int} {n : Nat} {P : Nat → Int → Int} (h : Ic σ l B s n P) (hk : 0 ≤ kp ∧ kp ≤ 3) : FO g zX5_remember [.ref 0, iv kp] σ l (remS σ (σ 0 3).toNat kp) := by
  have h4 := h.2.2.1
  have h8 := h.2.2.2
  have hlv := h.K.ca.lv
  exact remember_ok h.i8.1 h.i8.2 (by omega) ⟨by omega, by omega⟩ ⟨by omega, by omega⟩ (h.K.st.H h.K.ok) (h.K.st.N h.K.ok) h.K.ok.h7 h.K.ok.n40
theorem rem_c {B kp : Int} {s : Int → Int} {n : Nat} {P : Nat → Int → Int} (h : Ic σ l B s n P) : CSt (remS σ (σ 0 3).toNat kp) 1 s := h.K.st.frame (remS_o h.i8.1 (by decide) (by decide) (by decide)) (remS_o h.i8.1 (by decide) (by decide) (by decide)) (remS_o h.i8.1 (by decide) (by decide) (by decide)) (remS_o h.i8.1 (by decide) (by decide) (by decide))
theorem Fs.rem {τ : sT} {V W : Value} {B B' kp : Int} {s t : Int → Int} {n : Nat} {P : Nat → Int → Int} (hI : Ic σ l B s n P) (hk : 0 ≤ kp ∧ kp ≤ 3) (hv : W = V) (hτ : ∀ a, a < 1 ∨ 4 < a → τ a = remS σ (σ 0 3).toNat kp a) (hc : CSt τ 1 t) (ho : SOK B' t) (hB : B ≤ B') (hA : Ag kp t s) : fΦ (fun o τ l' => o = .inl (some V) ∧ MF σ τ ∧ Ic τ l B' t (nP n) (pP n s P) ∧ l' = l) (.inl (some W)) (mem τ l) := ⟨τ, l, rfl, by rw [hv], MF.rem hI.i8.1 hτ, hI.rem hk hτ hc ho hB hA, rfl⟩
/-- a row with one number changed -/
def su (s : Int → Int) (k v : Int) : Int → Int := fun j => if j = k then v else s j
theorem su_eq {s : Int → Int} {k v : Int} : su s k v k = v := if_pos rfl
theorem su_ne {s : Int → Int} {k v j : Int} (h : j ≠ k) : su s k v j = s j := if_neg h
theorem wPl_su {s : Int → Int} {k v : Int} (h : k < 13) : wPl (su s k v) = wPl s := funext fun j => su_ne (by omega)
theorem wSz_su {s : Int → Int} {k v : Int} (h : k < 13) : wSz (su s k v) = wSz s := funext fun j => su_ne (by omega)
theorem wTu_su {s : Int → Int} {k v : Int} (h : k < 27) : wTu (su s k v) = wTu s := funext fun j => su_ne (by omega)
theorem CSt.u2 {b : Nat} {s : Int → Int} {v : Int} (h : CSt σ b s) : CSt (up σ b 2 v) b (su s 2 v) := ⟨by rw [up_ne (by omega), su_ne (by decide)]; exact h.f0, by rw [up_ne (by omega), su_ne (by decide)]; exact h.f1, by rw [up_eq, su_eq], by rw [up_ne (by omega), su_ne (by decide)]; exact h.f3, by rw [up_ne (by omega), su_ne (by decide)]; exact h.f4, by rw [up_ne (by omega), su_ne (by decide)]; exact h.f5, by rw [up_ne (by omega), su_ne (by decide)]; exact h.f6, by rw [up_ne (by omega), su_ne (by decide)]; exact h.f7, by rw [up_ne (by omega), su_ne (by decide)]; exact h.f8, by rw [up_ne (by omega), su_ne (by decide)]; exact h.f9, by rw [up_ne (by omega), su_ne (by decide)]; exact h.f10, by rw [up_ne (by omega), su_ne (by decide)]; exact h.f11, by rw [up_ne (by omega), su_ne (by decide)]; exact h.f12, fun k k0 k1 => by rw [su_ne (by decide)] at k1; rw [up_n (by omega), wPl_su (by decide)]; exact h.pl k k0 k1, fun k k0 k1 => by rw [su_ne (by decide)] at k1; rw [up_n (by omega), wSz_su (by decide)]; exact h.sz k k0 k1, fun k k0 k1 => by rw [su_ne (by decide)] at k1; rw [up_n (by omega), wTu_su (by decide)]; exact h.tu k k0 k1⟩
theorem CSt.u4 {b : Nat} {s : Int → Int} {v : Int} (h : CSt σ b s) : CSt (up σ b 3 v) b (su s 4 v) := ⟨by rw [up_ne (by omega), su_ne (by decide)]; exact h.f0, by rw [up_ne (by omega), su_ne (by decide)]; exact h.f1, by rw [up_ne (by omega), su_ne (by decide)]; exact h.f2, by rw [up_eq, su_eq], by rw [up_ne (by omega), su_ne (by decide)]; exact h.f4, by rw [up_ne (by omega), su_ne (by decide)]; exact h.f5, by rw [up_ne (by omega), su_ne (by decide)]; exact h.f6, by rw [up_ne (by omega), su_ne (by decide)]; exact h.f7, by rw [up_ne (by omega), su_ne (by decide)]; exact h.f8, by rw [up_ne (by omega), su_ne (by decide)]; exact h.f9, by rw [up_ne (by omega), su_ne (by decide)]; exact h.f10, by rw [up_ne (by omega), su_ne (by decide)]; exact h.f11, by rw [up_ne (by omega), su_ne (by decide)]; exact h.f12, fun k k0 k1 => by rw [su_ne (by decide)] at k1; rw [up_n (by omega), wPl_su (by decide)]; exact h.pl k k0 k1, fun k k0 k1 => by rw [su_ne (by decide)] at k1; rw [up_n (by omega), wSz_su (by decide)]; exact h.sz k k0 k1, fun k k0 k1 => by rw [su_ne (by decide)] at k1; rw [up_n (by omega), wTu_su (by decide)]; exact h.tu k k0 k1⟩
theorem CSt.u5 {b : Nat} {s : Int → Int} {v : Int} (h : CSt σ b s) : CSt (up σ b 4 v) b (su s 5 v) := ⟨by rw [up_ne (by omega), su_ne (by decide)]; exact h.f0, by rw [up_ne (by omega), su_ne (by decide)]; exact h.f1, by rw [up_ne (by omega), su_ne (by decide)]; exact h.f2, by rw [up_ne (by omega), su_ne (by decide)]; exact h.f3, by rw [up_eq, su_eq], by rw [up_ne (by omega), su_ne (by decide)]; exact h.f5, by rw [up_ne (by omega), su_ne (by decide)]; exact h.f6, by rw [up_ne (by omega), su_ne (by decide)]; exact h.f7, by rw [up_ne (by omega), su_ne (by decide)]; exact h.f8, by rw [up_ne (by omega), su_ne (by decide)]; exact h.f9, by rw [up_ne (by omega), su_ne (by decide)]; exact h.f10, by rw [up_ne (by omega), su_ne (by decide)]; exact h.f11, by rw [up_ne (by omega), su_ne (by decide)]; exact h.f12, fun k k0 k1 => by rw [su_ne (by decide)] at k1; rw [up_n (by omega), wPl_su (by decide)]; exact h.pl k k0 k1, fun k k0 k1 => by rw [su_ne (by decide)] at k1; rw [up_n (by omega), wSz_su (by decide)]; exact h.sz k k0 k1, fun k k0 k1 => by rw [su_ne (by decide)] at k1; rw [up_n (by omega), wTu_su (by decide)]; exact h.tu k k0 k1⟩
theorem CSt.u6 {b : Nat} {s : Int → Int} {v : Int} (h : CSt σ b s) : CSt (up σ b 5 v) b (su s 6 v) := ⟨by rw [up_ne (by omega), su_ne (by decide)]; exact h.f0, by rw [up_ne (by omega), su_ne (by decide)]; exact h.f1, by rw [up_ne (by omega), su_ne (by decide)]; exact h.f2, by rw [up_ne (by omega), su_ne (by decide)]; exact h.f3, by rw [up_ne (by omega), su_ne (by decide)]; exact h.f4, by rw [up_eq, su_eq], by rw [up_ne (by omega), su_ne (by decide)]; exact h.f6, by rw [up_ne (by omega), su_ne (by decide)]; exact h.f7, by rw [up_ne (by omega), su_ne (by decide)]; exact h.f8, by rw [up_ne (by omega), su_ne (by decide)]; exact h.f9, by rw [up_ne (by omega), su_ne (by decide)]; exact h.f10, by rw [up_ne (by omega), su_ne (by decide)]; exact h.f11, by rw [up_ne (by omega), su_ne (by decide)]; exact h.f12, fun k k0 k1 => by rw [su_ne (by decide)] at k1; rw [up_n (by omega), wPl_su (by decide)]; exact h.pl k k0 k1, fun k k0 k1 => by rw [su_ne (by decide)] at k1; rw [up_n (by omega), wSz_su (by decide)]; exact h.sz k k0 k1, fun k k0 k1 => by rw [su_ne (by decide)] at k1; rw [up_n (by omega), wTu_su (by decide)]; exact h.tu k k0 k1⟩
theorem CSt.u7 {b : Nat} {s : Int → Int} {v : Int} (h : CSt σ b s) : CSt (up σ b 6 v) b (su s 7 v) := ⟨by rw [up_ne (by omega), su_ne (by decide)]; exact h.f0, by rw [up_ne (by omega), su_ne (by decide)]; exact h.f1, by rw [up_ne (by omega), su_ne (by decide)]; exact h.f2, by rw [up_ne (by omega), su_ne (by decide)]; exact h.f3, by rw [up_ne (by omega), su_ne (by decide)]; exact h.f4, by rw [up_ne (by omega), su_ne (by decide)]; exact h.f5, by rw [up_eq, su_eq], by rw [up_ne (by omega), su_ne (by decide)]; exact h.f7, by rw [up_ne (by omega), su_ne (by decide)]; exact h.f8, by rw [up_ne (by omega), su_ne (by decide)]; exact h.f9, by rw [up_ne (by omega), su_ne (by decide)]; exact h.f10, by rw [up_ne (by omega), su_ne (by decide)]; exact h.f11, by rw [up_ne (by omega), su_ne (by decide)]; exact h.f12, fun k k0 k1 => by rw [su_ne (by decide)] at k1; rw [up_n (by omega), wPl_su (by decide)]; exact h.pl k k0 k1, fun k k0 k1 => by rw [su_ne (by decide)] at k1; rw [up_n (by omega), wSz_su (by decide)]; exact h.sz k k0 k1, fun k k0 k1 => by rw [su_ne (by decide)] at k1; rw [up_n (by omega), wTu_su (by decide)]; exact h.tu k k0 k1⟩
theorem CSt.u8 {b : Nat} {s : Int → Int} {v : Int} (h : CSt σ b s) : CSt (up σ b 7 v) b (su s 8 v) := ⟨by rw [up_ne (by omega), su_ne (by decide)]; exact h.f0, by rw [up_ne (by omega), su_ne (by decide)]; exact h.f1, by rw [up_ne (by omega), su_ne (by decide)]; exact h.f2, by rw [up_ne (by omega), su_ne (by decide)]; exact h.f3, by rw [up_ne (by omega), su_ne (by decide)]; exact h.f4, by rw [up_ne (by omega), su_ne (by decide)]; exact h.f5, by rw [up_ne (by omega), su_ne (by decide)]; exact h.f6, by rw [up_eq, su_eq], by rw [up_ne (by omega), su_ne (by decide)]; exact h.f8, by rw [up_ne (by omega), su_ne (by decide)]; exact h.f9, by rw [up_ne (by omega), su_ne (by decide)]; exact h.f10, by rw [up_ne (by omega), su_ne (by decide)]; exact h.f11, by rw [up_ne (by omega), su_ne (by decide)]; exact h.f12, fun k k0 k1 => by rw [su_ne (by decide)] at k1; rw [up_n (by omega), wPl_su (by decide)]; exact h.pl k k0 k1, fun k k0 k1 => by rw [su_ne (by decide)] at k1; rw [up_n (by omega), wSz_su (by decide)]; exact h.sz k k0 k1, fun k k0 k1 => by rw [su_ne (by decide)] at k1; rw [up_n (by omega), wTu_su (by decide)]; exact h.tu k k0 k1⟩
theorem CSt.u10 {b : Nat} {s : Int → Int} {v : Int} (h : CSt σ b s) : CSt (up σ b 10 v) b (su s 10 v) := ⟨by rw [up_ne (by omega), su_ne (by decide)]; exact h.f0, by rw [up_ne (by omega), su_ne (by decide)]; exact h.f1, by rw [up_ne (by omega), su_ne (by decide)]; exact h.f2, by rw [up_ne (by omega), su_ne (by decide)]; exact h.f3, by rw [up_ne (by omega), su_ne (by decide)]; exact h.f4, by rw [up_ne (by omega), su_ne (by decide)]; exact h.f5, by rw [up_ne (by omega), su_ne (by decide)]; exact h.f6, by rw [up_ne (by omega), su_ne (by decide)]; exact h.f7, by rw [up_ne (by omega), su_ne (by decide)]; exact h.f8, by rw [up_ne (by omega), su_ne (by decide)]; exact h.f9, by rw [up_eq, su_eq], by rw [up_ne (by omega), su_ne (by decide)]; exact h.f11, by rw [up_ne (by omega), su_ne (by decide)]; exact h.f12, fun k k0 k1 => by rw [su_ne (by decide)] at k1; rw [up_n (by omega), wPl_su (by decide)]; exact h.pl k k0 k1, fun k k0 k1 => by rw [su_ne (by decide)] at k1; rw [up_n (by omega), wSz_su (by decide)]; exact h.sz k k0 k1, fun k k0 k1 => by rw [su_ne (by decide)] at k1; rw [up_n (by omega), wTu_su (by decide)]; exact h.tu k k0 k1⟩
theorem CSt.u11 {b : Nat} {s : Int → Int} {v : Int} (h : CSt σ b s) : CSt (up σ b 11 v) b (su s 11 v) := ⟨by rw [up_ne (by omega), su_ne (by decide)]; exact h.f0, by rw [up_ne (by omega), su_ne (by decide)]; exact h.f1, by rw [up_ne (by omega), su_ne (by decide)]; exact h.f2, by rw [up_ne (by omega), su_ne (by decide)]; exact h.f3, by rw [up_ne (by omega), su_ne (by decide)]; exact h.f4, by rw [up_ne (by omega), su_ne (by decide)]; exact h.f5, by rw [up_ne (by omega), su_ne (by decide)]; exact h.f6, by rw [up_ne (by omega), su_ne (by decide)]; exact h.f7, by rw [up_ne (by omega), su_ne (by decide)]; exact h.f8, by rw [up_ne (by omega), su_ne (by decide)]; exact h.f9, by rw [up_ne (by omega), su_ne (by decide)]; exact h.f10, by rw [up_eq, su_eq], by rw [up_ne (by omega), su_ne (by decide)]; exact h.f12, fun k k0 k1 => by rw [su_ne (by decide)] at k1; rw [up_n (by omega), wPl_su (by decide)]; exact h.pl k k0 k1, fun k k0 k1 => by rw [su_ne (by decide)] at k1; rw [up_n (by omega), wSz_su (by decide)]; exact h.sz k k0 k1, fun k k0 k1 => by rw [su_ne (by decide)] at k1; rw [up_n (by omega), wTu_su (by decide)]; exact h.tu k k0 k1⟩
theorem CSt.u12 {b : Nat} {s : Int → Int} {v : Int} (h : CSt σ b s) : CSt (up σ b 12 v) b (su s 12 v) := ⟨by rw [up_ne (by omega), su_ne (by decide)]; exact h.f0, by rw [up_ne (by omega), su_ne (by decide)]; exact h.f1, by rw [up_ne (by omega), su_ne (by decide)]; exact h.f2, by rw [up_ne (by omega), su_ne (by decide)]; exact h.f3, by rw [up_ne (by omega), su_ne (by decide)]; exact h.f4, by rw [up_ne (by omega), su_ne (by decide)]; exact h.f5, by rw [up_ne (by omega), su_ne (by decide)]; exact h.f6, by rw [up_ne (by omega), su_ne (by decide)]; exact h.f7, by rw [up_ne (by omega), su_ne (by decide)]; exact h.f8, by rw [up_ne (by omega), su_ne (by decide)]; exact h.f9, by rw [up_ne (by omega), su_ne (by decide)]; exact h.f10, by rw [up_ne (by omega), su_ne (by decide)]; exact h.f11, by rw [up_eq, su_eq], fun k k0 k1 => by rw [su_ne (by decide)] at k1; rw [up_n (by omega), wPl_su (by decide)]; exact h.pl k k0 k1, fun k k0 k1 => by rw [su_ne (by decide)] at k1; rw [up_n (by omega), wSz_su (by decide)]; exact h.sz k k0 k1, fun k k0 k1 => by rw [su_ne (by decide)] at k1; rw [up_n (by omega), wTu_su (by decide)]; exact h.tu k k0 k1⟩
theorem CSt.pa {b : Nat} {s : Int → Int} {v : Int} {k : Nat} (h : CSt σ b s) (hk : k < 7) : CSt (up σ (b + 1) (k : Int) v) b (su s (13 + 2 * (k : Int)) v) := by
  refine ⟨?_, ?_, ?_, ?_, ?_, ?_, ?_, ?_, ?_, ?_, ?_, ?_, ?_, ?_, ?_, ?_⟩
  · rw [up_n (by omega), su_ne (by omega)]; exact h.f0
  · rw [up_n (by omega), su_ne (by omega)]; exact h.f1
  · rw [up_n (by omega), su_ne (by omega)]; exact h.f2
  · rw [up_n (by omega), su_ne (by omega)]; exact h.f3
  · rw [up_n (by omega), su_ne (by omega)]; exact h.f4
  · rw [up_n (by omega), su_ne (by omega)]; exact h.f5
  · rw [up_n (by omega), su_ne (by omega)]; exact h.f6
  · rw [up_n (by omega), su_ne (by omega)]; exact h.f7
  · rw [up_n (by omega), su_ne (by omega)]; exact h.f8
  · rw [up_n (by omega), su_ne (by omega)]; exact h.f9
  · rw [up_n (by omega), su_ne (by omega)]; exact h.f10
  · rw [up_n (by omega), su_ne (by omega)]; exact h.f11
  · rw [up_n (by omega), su_ne (by omega)]; exact h.f12
  · intro j j0 j1
    rw [su_ne (by omega)] at j1
    by_cases c : j = (k : Int)
    · rw [c, up_eq]; unfold wPl; rw [Int.toNat_natCast, su_eq]
    · rw [up_ne (fun z => c z.2), h.pl j j0 j1]; unfold wPl; rw [su_ne (by omega)]
  · exact fun j j0 j1 => by rw [su_ne (by omega)] at j1; rw [up_n (by omega), h.sz j j0 j1]; unfold wSz; rw [su_ne (by omega)]
  · exact fun j j0 j1 => by rw [su_ne (by omega)] at j1; rw [up_n (by omega), h.tu j j0 j1]; unfold wTu; rw [su_ne (by omega)]
theorem CSt.za {b : Nat} {s : Int → Int} {v : Int} {k : Nat} (h : CSt σ b s) (hk : k < 7) : CSt (up σ (b + 2) (k : Int) v) b (su s (14 + 2 * (k : Int)) v) := by
  refine ⟨?_, ?_, ?_, ?_, ?_, ?_, ?_, ?_, ?_, ?_, ?_, ?_, ?_, ?_, ?_, ?_⟩
  · rw [up_n (by omega), su_ne (by omega)]; exact h.f0
  · rw [up_n (by omega), su_ne (by omega)]; exact h.f1
  · rw [up_n (by omega), su_ne (by omega)]; exact h.f2
  · rw [up_n (by omega), su_ne (by omega)]; exact h.f3
  · rw [up_n (by omega), su_ne (by omega)]; exact h.f4
  · rw [up_n (by omega), su_ne (by omega)]; exact h.f5
  · rw [up_n (by omega), su_ne (by omega)]; exact h.f6
  · rw [up_n (by omega), su_ne (by omega)]; exact h.f7
  · rw [up_n (by omega), su_ne (by omega)]; exact h.f8
  · rw [up_n (by omega), su_ne (by omega)]; exact h.f9
  · rw [up_n (by omega), su_ne (by omega)]; exact h.f10
  · rw [up_n (by omega), su_ne (by omega)]; exact h.f11
  · rw [up_n (by omega), su_ne (by omega)]; exact h.f12
  · exact fun j j0 j1 => by rw [su_ne (by omega)] at j1; rw [up_n (by omega), h.pl j j0 j1]; unfold wPl; rw [su_ne (by omega)]
  · intro j j0 j1
    rw [su_ne (by omega)] at j1
    by_cases c : j = (k : Int)
    · rw [c, up_eq]; unfold wSz; rw [Int.toNat_natCast, su_eq]
    · rw [up_ne (fun z => c z.2), h.sz j j0 j1]; unfold wSz; rw [su_ne (by omega)]
  · exact fun j j0 j1 => by rw [su_ne (by omega)] at j1; rw [up_n (by omega), h.tu j j0 j1]; unfold wTu; rw [su_ne (by omega)]
theorem CSt.tn {τ : sT} {b : Nat} {s t : Int → Int} (h : CSt σ b s) (h3 : s 3 ≤ 7) (e : ∀ k : Nat, k < 27 → k ≠ 9 → k ≠ 12 → t k = s k) (h1 : ∀ j : Int, j ≠ 9 → j ≠ 12 → τ b j = σ b j) (h9 : τ b 9 = t 9) (h12 : τ b 12 = t 12) (hp : τ (b + 1) = σ (b + 1)) (hz : τ (b + 2) = σ (b + 2)) (ht : ∀ k, 0 ≤ k → k < t 9 → τ (b + 3) k = wTu t k) : CSt τ b t := by
  have e3 : t 3 = s 3 := e 3 (by decide) (by decide) (by decide)
  refine ⟨?_, ?_, ?_, ?_, ?_, ?_, ?_, ?_, ?_, ?_, ?_, ?_, ?_, fun k k0 k1 => ?_, fun k k0 k1 => ?_, ht⟩
  · rw [h1 0 (by decide) (by decide), show t 0 = s 0 from e 0 (by decide) (by decide) (by decide)]; exact h.f0
  · rw [h1 1 (by decide) (by decide), show t 1 = s 1 from e 1 (by decide) (by decide) (by decide)]; exact h.f1
  · rw [h1 2 (by decide) (by decide), show t 2 = s 2 from e 2 (by decide) (by decide) (by decide)]; exact h.f2
  · rw [h1 3 (by decide) (by decide), show t 4 = s 4 from e 4 (by decide) (by decide) (by decide)]; exact h.f3
  · rw [h1 4 (by decide) (by decide), show t 5 = s 5 from e 5 (by decide) (by decide) (by decide)]; exact h.f4
  · rw [h1 5 (by decide) (by decide), show t 6 = s 6 from e 6 (by decide) (by decide) (by decide)]; exact h.f5
  · rw [h1 6 (by decide) (by decide), show t 7 = s 7 from e 7 (by decide) (by decide) (by decide)]; exact h.f6
  · rw [h1 7 (by decide) (by decide), show t 8 = s 8 from e 8 (by decide) (by decide) (by decide)]; exact h.f7
  · rw [h1 8 (by decide) (by decide), show t 3 = s 3 from e 3 (by decide) (by decide) (by decide)]; exact h.f8
  · exact h9
  · rw [h1 10 (by decide) (by decide), show t 10 = s 10 from e 10 (by decide) (by decide) (by decide)]; exact h.f10
  · rw [h1 11 (by decide) (by decide), show t 11 = s 11 from e 11 (by decide) (by decide) (by decide)]; exact h.f11
  · exact h12
  · rw [hp, h.pl k k0 (by omega)]
    have := e (13 + 2 * k.toNat) (by omega) (by omega) (by omega)
    unfold wPl
    rw [show (13 + 2 * (k.toNat : Int)) = ((13 + 2 * k.toNat : Nat) : Int) from by push_cast; rfl]
    exact this.symm
  · rw [hz, h.sz k k0 (by omega)]
    have := e (14 + 2 * k.toNat) (by omega) (by omega) (by omega)
    unfold wSz
    rw [show (14 + 2 * (k.toNat : Int)) = ((14 + 2 * k.toNat : Nat) : Int) from by push_cast; rfl]
    exact this.symm
theorem pl_e {s t : Int → Int} (e : ∀ k : Nat, k < 27 → k ≠ 9 → k ≠ 12 → t k = s k) {k : Int} (k1 : k < 7) : wPl t k = wPl s k ∧ wSz t k = wSz s k := by
  have e1 := e (13 + 2 * k.toNat) (by omega) (by omega) (by omega)
  have e2 := e (14 + 2 * k.toNat) (by omega) (by omega) (by omega)
  unfold wPl wSz
  rw [show (13 + 2 * (k.toNat : Int)) = ((13 + 2 * k.toNat : Nat) : Int) from by push_cast; rfl, show (14 + 2 * (k.toNat : Int)) = ((14 + 2 * k.toNat : Nat) : Int) from by push_cast; rfl]
  exact ⟨e1, e2⟩
theorem SOK.tn {B : Int} {s t : Int → Int} (h : SOK B s) (e : ∀ k : Nat, k < 27 → k ≠ 9 → k ≠ 12 → t k = s k) (h9 : 0 ≤ t 9 ∧ t 9 ≤ 40) (h12 : 0 ≤ t 12 ∧ (t 12 = 0 ∨ t 12 < t 9)) (ht : ∀ k, 0 ≤ k → k < t 9 → -1 ≤ wTu t k ∧ wTu t k ≤ 24) : SOK B t := by
  have e3 : t 3 = s 3 := e 3 (by decide) (by decide) (by decide)
  have eH : wH t = wH s := by unfold wH; rw [e3]
  have h3 := h.holes
  refine ⟨?_, ?_, ?_, ?_, ?_, ?_, ?_, ?_, ?_, ?_, ?_, ?_, ?_, ?_, ht⟩
  · rw [show t 0 = s 0 from e 0 (by decide) (by decide) (by decide)]; exact h.len
  · rw [show t 1 = s 1 from e 1 (by decide) (by decide) (by decide)]; exact h.bore
  · rw [show t 2 = s 2 from e 2 (by decide) (by decide) (by decide)]; exact h.tol
  · rw [show t 3 = s 3 from e 3 (by decide) (by decide) (by decide)]; exact h.holes
  · rw [show t 4 = s 4 from e 4 (by decide) (by decide) (by decide)]; exact h.halves
  · rw [show t 5 = s 5 from e 5 (by decide) (by decide) (by decide)]; exact h.crosses
  · rw [show t 6 = s 6 from e 6 (by decide) (by decide) (by decide)]; exact h.move
  · rw [show t 7 = s 7 from e 7 (by decide) (by decide) (by decide)]; exact h.half
  · rw [show t 8 = s 8 from e 8 (by decide) (by decide) (by decide)]; exact h.breath
  · exact h9
  · rw [eH, show t 10 = s 10 from e 10 (by decide) (by decide) (by decide)]; exact h.play
  · rw [show t 11 = s 11 from e 11 (by decide) (by decide) (by decide)]; exact h.spent
  · exact h12
  · intro k k0 k1
    have q := pl_e e (k := k) (by omega)
    rw [q.1, q.2]
    exact h.hol k k0 (by omega)
theorem Ag.tn {s t : Int → Int} (h3 : s 3 ≤ 7) (e : ∀ k : Nat, k < 27 → k ≠ 9 → k ≠ 12 → t k = s k) : Ag 2 t s := by
  have e3 : t 3 = s 3 := e 3 (by decide) (by decide) (by decide)
  exact ⟨fun _ => ⟨e 0 (by decide) (by decide) (by decide), e 1 (by decide) (by decide) (by decide), e3, fun k k0 k1 => pl_e e (by omega)⟩, fun _ => ⟨e 2 (by decide) (by decide) (by decide), e 4 (by decide) (by decide) (by decide), e 5 (by decide) (by decide) (by decide)⟩, fun z => absurd z (by decide)⟩
theorem SOK.u2 {B : Int} {s : Int → Int} {v : Int} (h : SOK B s) (hv : 5 ≤ v ∧ v ≤ 49) : SOK B (su s 2 v) := ⟨by rw [su_ne (by decide)]; exact h.len, by rw [su_ne (by decide)]; exact h.bore, by rw [su_eq]; exact hv, by rw [su_ne (by decide)]; exact h.holes, by rw [su_ne (by decide)]; exact h.halves, by rw [su_ne (by decide)]; exact h.crosses, by rw [su_ne (by decide)]; exact h.move, by rw [su_ne (by decide)]; exact h.half, by rw [su_ne (by decide)]; exact h.breath, by rw [su_ne (by decide)]; exact h.notes, by rw [show wH (su s 2 v) = wH s from rfl, su_ne (by decide)]; exact h.play, by rw [su_ne (by decide)]; exact h.spent, by rw [su_ne (by decide), su_ne (by decide)]; exact h.place, fun k k0 k1 => by rw [su_ne (by decide)] at k1; rw [wPl_su (by decide), wSz_su (by decide)]; exact h.hol k k0 k1, fun k k0 k1 => by rw [su_ne (by decide)] at k1; rw [wTu_su (by decide)]; exact h.tune k k0 k1⟩
theorem Ag.u2 (s : Int → Int) (v : Int) : Ag 1 (su s 2 v) s := ⟨fun _ => ⟨by rw [su_ne (by decide)], by rw [su_ne (by decide)], by rw [su_ne (by decide)], fun k _ _ => by rw [wPl_su (by decide), wSz_su (by decide)]; exact ⟨rfl, rfl⟩⟩, fun z => absurd z (by decide), fun z => absurd z (by decide)⟩
theorem SOK.u4 {B : Int} {s : Int → Int} {v : Int} (h : SOK B s) (hv : 0 ≤ v ∧ v ≤ 2) : SOK B (su s 4 v) := ⟨by rw [su_ne (by decide)]; exact h.len, by rw [su_ne (by decide)]; exact h.bore, by rw [su_ne (by decide)]; exact h.tol, by rw [su_ne (by decide)]; exact h.holes, by rw [su_eq]; exact hv, by rw [su_ne (by decide)]; exact h.crosses, by rw [su_ne (by decide)]; exact h.move, by rw [su_ne (by decide)]; exact h.half, by rw [su_ne (by decide)]; exact h.breath, by rw [su_ne (by decide)]; exact h.notes, by rw [show wH (su s 4 v) = wH s from rfl, su_ne (by decide)]; exact h.play, by rw [su_ne (by decide)]; exact h.spent, by rw [su_ne (by decide), su_ne (by decide)]; exact h.place, fun k k0 k1 => by rw [su_ne (by decide)] at k1; rw [wPl_su (by decide), wSz_su (by decide)]; exact h.hol k k0 k1, fun k k0 k1 => by rw [su_ne (by decide)] at k1; rw [wTu_su (by decide)]; exact h.tune k k0 k1⟩
theorem Ag.u4 (s : Int → Int) (v : Int) : Ag 1 (su s 4 v) s := ⟨fun _ => ⟨by rw [su_ne (by decide)], by rw [su_ne (by decide)], by rw [su_ne (by decide)], fun k _ _ => by rw [wPl_su (by decide), wSz_su (by decide)]; exact ⟨rfl, rfl⟩⟩, fun z => absurd z (by decide), fun z => absurd z (by decide)⟩
theorem SOK.u5 {B : Int} {s : Int → Int} {v : Int} (h : SOK B s) (hv : 0 ≤ v ∧ v ≤ 3) : SOK B (su s 5 v) := ⟨by rw [su_ne (by decide)]; exact h.len, by rw [su_ne (by decide)]; exact h.bore, by rw [su_ne (by decide)]; exact h.tol, by rw [su_ne (by decide)]; exact h.holes, by rw [su_ne (by decide)]; exact h.halves, by rw [su_eq]; exact hv, by rw [su_ne (by decide)]; exact h.move, by rw [su_ne (by decide)]; exact h.half, by rw [su_ne (by decide)]; exact h.breath, by rw [su_ne (by decide)]; exact h.notes, by rw [show wH (su s 5 v) = wH s from rfl, su_ne (by decide)]; exact h.play, by rw [su_ne (by decide)]; exact h.spent, by rw [su_ne (by decide), su_ne (by decide)]; exact h.place, fun k k0 k1 => by rw [su_ne (by decide)] at k1; rw [wPl_su (by decide), wSz_su (by decide)]; exact h.hol k k0 k1, fun k k0 k1 => by rw [su_ne (by decide)] at k1; rw [wTu_su (by decide)]; exact h.tune k k0 k1⟩
theorem Ag.u5 (s : Int → Int) (v : Int) : Ag 1 (su s 5 v) s := ⟨fun _ => ⟨by rw [su_ne (by decide)], by rw [su_ne (by decide)], by rw [su_ne (by decide)], fun k _ _ => by rw [wPl_su (by decide), wSz_su (by decide)]; exact ⟨rfl, rfl⟩⟩, fun z => absurd z (by decide), fun z => absurd z (by decide)⟩
theorem SOK.u6 {B : Int} {s : Int → Int} {v : Int} (h : SOK B s) (hv : 1 ≤ v ∧ v ≤ 9) : SOK B (su s 6 v) := ⟨by rw [su_ne (by decide)]; exact h.len, by rw [su_ne (by decide)]; exact h.bore, by rw [su_ne (by decide)]; exact h.tol, by rw [su_ne (by decide)]; exact h.holes, by rw [su_ne (by decide)]; exact h.halves, by rw [su_ne (by decide)]; exact h.crosses, by rw [su_eq]; exact hv, by rw [su_ne (by decide)]; exact h.half, by rw [su_ne (by decide)]; exact h.breath, by rw [su_ne (by decide)]; exact h.notes, by rw [show wH (su s 6 v) = wH s from rfl, su_ne (by decide)]; exact h.play, by rw [su_ne (by decide)]; exact h.spent, by rw [su_ne (by decide), su_ne (by decide)]; exact h.place, fun k k0 k1 => by rw [su_ne (by decide)] at k1; rw [wPl_su (by decide), wSz_su (by decide)]; exact h.hol k k0 k1, fun k k0 k1 => by rw [su_ne (by decide)] at k1; rw [wTu_su (by decide)]; exact h.tune k k0 k1⟩
theorem Ag.u6 (s : Int → Int) (v : Int) : Ag 2 (su s 6 v) s := ⟨fun _ => ⟨by rw [su_ne (by decide)], by rw [su_ne (by decide)], by rw [su_ne (by decide)], fun k _ _ => by rw [wPl_su (by decide), wSz_su (by decide)]; exact ⟨rfl, rfl⟩⟩, fun _ => ⟨by rw [su_ne (by decide)], by rw [su_ne (by decide)], by rw [su_ne (by decide)]⟩, fun z => absurd z (by decide)⟩
theorem SOK.u7 {B : Int} {s : Int → Int} {v : Int} (h : SOK B s) (hv : 1 ≤ v ∧ v ≤ 9) : SOK B (su s 7 v) := ⟨by rw [su_ne (by decide)]; exact h.len, by rw [su_ne (by decide)]; exact h.bore, by rw [su_ne (by decide)]; exact h.tol, by rw [su_ne (by decide)]; exact h.holes, by rw [su_ne (by decide)]; exact h.halves, by rw [su_ne (by decide)]; exact h.crosses, by rw [su_ne (by decide)]; exact h.move, by rw [su_eq]; exact hv, by rw [su_ne (by decide)]; exact h.breath, by rw [su_ne (by decide)]; exact h.notes, by rw [show wH (su s 7 v) = wH s from rfl, su_ne (by decide)]; exact h.play, by rw [su_ne (by decide)]; exact h.spent, by rw [su_ne (by decide), su_ne (by decide)]; exact h.place, fun k k0 k1 => by rw [su_ne (by decide)] at k1; rw [wPl_su (by decide), wSz_su (by decide)]; exact h.hol k k0 k1, fun k k0 k1 => by rw [su_ne (by decide)] at k1; rw [wTu_su (by decide)]; exact h.tune k k0 k1⟩
theorem Ag.u7 (s : Int → Int) (v : Int) : Ag 2 (su s 7 v) s := ⟨fun _ => ⟨by rw [su_ne (by decide)], by rw [su_ne (by decide)], by rw [su_ne (by decide)], fun k _ _ => by rw [wPl_su (by decide), wSz_su (by decide)]; exact ⟨rfl, rfl⟩⟩, fun _ => ⟨by rw [su_ne (by decide)], by rw [su_ne (by decide)], by rw [su_ne (by decide)]⟩, fun z => absurd z (by decide)⟩
theorem SOK.u8 {B : Int} {s : Int → Int} {v : Int} (h : SOK B s) (hv : 0 ≤ v ∧ v ≤ 9) : SOK B (su s 8 v) := ⟨by rw [su_ne (by decide)]; exact h.len, by rw [su_ne (by decide)]; exact h.bore, by rw [su_ne (by decide)]; exact h.tol, by rw [su_ne (by decide)]; exact h.holes, by rw [su_ne (by decide)]; exact h.halves, by rw [su_ne (by decide)]; exact h.crosses, by rw [su_ne (by decide)]; exact h.move, by rw [su_ne (by decide)]; exact h.half, by rw [su_eq]; exact hv, by rw [su_ne (by decide)]; exact h.notes, by rw [show wH (su s 8 v) = wH s from rfl, su_ne (by decide)]; exact h.play, by rw [su_ne (by decide)]; exact h.spent, by rw [su_ne (by decide), su_ne (by decide)]; exact h.place, fun k k0 k1 => by rw [su_ne (by decide)] at k1; rw [wPl_su (by decide), wSz_su (by decide)]; exact h.hol k k0 k1, fun k k0 k1 => by rw [su_ne (by decide)] at k1; rw [wTu_su (by decide)]; exact h.tune k k0 k1⟩
theorem Ag.u8 (s : Int → Int) (v : Int) : Ag 2 (su s 8 v) s := ⟨fun _ => ⟨by rw [su_ne (by decide)], by rw [su_ne (by decide)], by rw [su_ne (by decide)], fun k _ _ => by rw [wPl_su (by decide), wSz_su (by decide)]; exact ⟨rfl, rfl⟩⟩, fun _ => ⟨by rw [su_ne (by decide)], by rw [su_ne (by decide)], by rw [su_ne (by decide)]⟩, fun z => absurd z (by decide)⟩
theorem SOK.u10 {B : Int} {s : Int → Int} {v : Int} (h : SOK B s) (hv : 0 ≤ v ∧ v < 2 * ((3 ^ wH s : Nat) : Int)) : SOK B (su s 10 v) := ⟨by rw [su_ne (by decide)]; exact h.len, by rw [su_ne (by decide)]; exact h.bore, by rw [su_ne (by decide)]; exact h.tol, by rw [su_ne (by decide)]; exact h.holes, by rw [su_ne (by decide)]; exact h.halves, by rw [su_ne (by decide)]; exact h.crosses, by rw [su_ne (by decide)]; exact h.move, by rw [su_ne (by decide)]; exact h.half, by rw [su_ne (by decide)]; exact h.breath, by rw [su_ne (by decide)]; exact h.notes, by rw [show wH (su s 10 v) = wH s from rfl, su_eq]; exact hv, by rw [su_ne (by decide)]; exact h.spent, by rw [su_ne (by decide), su_ne (by decide)]; exact h.place, fun k k0 k1 => by rw [su_ne (by decide)] at k1; rw [wPl_su (by decide), wSz_su (by decide)]; exact h.hol k k0 k1, fun k k0 k1 => by rw [su_ne (by decide)] at k1; rw [wTu_su (by decide)]; exact h.tune k k0 k1⟩
theorem Ag.u10 (s : Int → Int) (v : Int) : Ag 3 (su s 10 v) s := ⟨fun _ => ⟨by rw [su_ne (by decide)], by rw [su_ne (by decide)], by rw [su_ne (by decide)], fun k _ _ => by rw [wPl_su (by decide), wSz_su (by decide)]; exact ⟨rfl, rfl⟩⟩, fun _ => ⟨by rw [su_ne (by decide)], by rw [su_ne (by decide)], by rw [su_ne (by decide)]⟩, fun _ => ⟨by rw [su_ne (by decide)], by rw [su_ne (by decide)], by rw [su_ne (by decide)], by rw [su_ne (by decide)], fun k _ _ => by rw [wTu_su (by decide)]⟩⟩
theorem SOK.u11 {B : Int} {s : Int → Int} {v : Int} (h : SOK B s) (hv : 0 ≤ v ∧ v ≤ B) : SOK B (su s 11 v) := ⟨by rw [su_ne (by decide)]; exact h.len, by rw [su_ne (by decide)]; exact h.bore, by rw [su_ne (by decide)]; exact h.tol, by rw [su_ne (by decide)]; exact h.holes, by rw [su_ne (by decide)]; exact h.halves, by rw [su_ne (by decide)]; exact h.crosses, by rw [su_ne (by decide)]; exact h.move, by rw [su_ne (by decide)]; exact h.half, by rw [su_ne (by decide)]; exact h.breath, by rw [su_ne (by decide)]; exact h.notes, by rw [show wH (su s 11 v) = wH s from rfl, su_ne (by decide)]; exact h.play, by rw [su_eq]; exact hv, by rw [su_ne (by decide), su_ne (by decide)]; exact h.place, fun k k0 k1 => by rw [su_ne (by decide)] at k1; rw [wPl_su (by decide), wSz_su (by decide)]; exact h.hol k k0 k1, fun k k0 k1 => by rw [su_ne (by decide)] at k1; rw [wTu_su (by decide)]; exact h.tune k k0 k1⟩
theorem Ag.u11 (s : Int → Int) (v : Int) : Ag 3 (su s 11 v) s := ⟨fun _ => ⟨by rw [su_ne (by decide)], by rw [su_ne (by decide)], by rw [su_ne (by decide)], fun k _ _ => by rw [wPl_su (by decide), wSz_su (by decide)]; exact ⟨rfl, rfl⟩⟩, fun _ => ⟨by rw [su_ne (by decide)], by rw [su_ne (by decide)], by rw [su_ne (by decide)]⟩, fun _ => ⟨by rw [su_ne (by decide)], by rw [su_ne (by decide)], by rw [su_ne (by decide)], by rw [su_ne (by decide)], fun k _ _ => by rw [wTu_su (by decide)]⟩⟩
theorem SOK.u12 {B : Int} {s : Int → Int} {v : Int} (h : SOK B s) (hv : 0 ≤ v ∧ (v = 0 ∨ v < s 9)) : SOK B (su s 12 v) := ⟨by rw [su_ne (by decide)]; exact h.len, by rw [su_ne (by decide)]; exact h.bore, by rw [su_ne (by decide)]; exact h.tol, by rw [su_ne (by decide)]; exact h.holes, by rw [su_ne (by decide)]; exact h.halves, by rw [su_ne (by decide)]; exact h.crosses, by rw [su_ne (by decide)]; exact h.move, by rw [su_ne (by decide)]; exact h.half, by rw [su_ne (by decide)]; exact h.breath, by rw [su_ne (by decide)]; exact h.notes, by rw [show wH (su s 12 v) = wH s from rfl, su_ne (by decide)]; exact h.play, by rw [su_ne (by decide)]; exact h.spent, by rw [su_eq, su_ne (by decide)]; exact hv, fun k k0 k1 => by rw [su_ne (by decide)] at k1; rw [wPl_su (by decide), wSz_su (by decide)]; exact h.hol k k0 k1, fun k k0 k1 => by rw [su_ne (by decide)] at k1; rw [wTu_su (by decide)]; exact h.tune k k0 k1⟩
theorem Ag.u12 (s : Int → Int) (v : Int) : Ag 3 (su s 12 v) s := ⟨fun _ => ⟨by rw [su_ne (by decide)], by rw [su_ne (by decide)], by rw [su_ne (by decide)], fun k _ _ => by rw [wPl_su (by decide), wSz_su (by decide)]; exact ⟨rfl, rfl⟩⟩, fun _ => ⟨by rw [su_ne (by decide)], by rw [su_ne (by decide)], by rw [su_ne (by decide)]⟩, fun _ => ⟨by rw [su_ne (by decide)], by rw [su_ne (by decide)], by rw [su_ne (by decide)], by rw [su_ne (by decide)], fun k _ _ => by rw [wTu_su (by decide)]⟩⟩
theorem setLimits_ok {B : Int} {s : Int → Int} {n : Nat} {P : Nat → Int → Int} (hI : Ic σ l B s n P) {x y : Int} (hx : R32 x) (hy : R32 y) (h : (0 ≤ x ∧ x ≤ 2) ∧ 0 ≤ y ∧ y ≤ 3) : Fs g zX5_setLimits [.ref 0, iv x, iv y] σ l (iv (10 * s 4 + s 5)) B (su (su s 4 x) 5 y) (nP n) (pP n s P) := by
  have ho := hI.K.ok
  have hc := hI.K.st
  refine Fn.of [some (.ref 0), some (iv x), some (iv y), none] rfl (by decide) (Nat.le_of_ble_eq_true rfl) rfl ?_
  refine g_aload0 dX5_setLimits_0 ?_
  refine g_iload1 dX5_setLimits_1 ?_
  refine g_iload2 dX5_setLimits_2 ?_
  refine f_cV2d (needLimits_ok hx hy h) rfl (by decide) rfl oY_X5_needLimits oI_X5_needLimits lk_X5_268 rfl dX5_setLimits_3 rfl (Or.inl rfl) ?_
  refine g_aload0 dX5_setLimits_6 ?_
  refine g_iconst dX5_setLimits_7 ?_
  refine f_cV1d (rem_s (kp := 1) hI ⟨by decide, by decide⟩) rfl (by decide) rfl oY_X5_remember oI_X5_remember lk_X5_280 rfl dX5_setLimits_8 rfl (Or.inl rfl) ?_
  have hr := rem_c (kp := 1) hI
  obtain ⟨ρ, hρ⟩ : ∃ ρ, ρ = remS σ (σ 0 3).toNat 1 := ⟨_, rfl⟩
  rw [← hρ] at hr ⊢
  refine g_bipush dX5_setLimits_11 (by decide) ?_
  refine g_aload0 dX5_setLimits_13 ?_
  refine f_getr (r := 1) rfl (by decide) rfl rfl fl_X5_10 dX5_setLimits_14 ?_
  refine f_geti (J := 3) rfl (by decide) rfl rfl fl_X5_126 dX5_setLimits_17 ?_
  refine g_imul dX5_setLimits_20 ?_
  refine g_aload0 dX5_setLimits_21 ?_
  refine f_getr (r := 1) rfl (by decide) rfl rfl fl_X5_10 dX5_setLimits_22 ?_
  refine f_geti (J := 4) rfl (by decide) rfl rfl fl_X5_129 dX5_setLimits_25 ?_
  refine g_iadd dX5_setLimits_28 ?_
  refine g_istore3 dX5_setLimits_29 rfl (by decide) ?_
  refine g_aload0 dX5_setLimits_30 ?_
  refine f_getr (r := 1) rfl (by decide) rfl rfl fl_X5_10 dX5_setLimits_31 ?_
  refine g_iload1 dX5_setLimits_34 ?_
  refine f_puti (J := 3) rfl (by decide) rfl rfl fl_X5_126 rfl (fun _ _ _ h => by cases h; rfl) dX5_setLimits_35 ?_
  refine g_aload0 dX5_setLimits_38 ?_
  refine f_getr (r := 1) rfl (by decide) rfl rfl fl_X5_10 dX5_setLimits_39 ?_
  refine g_iload2 dX5_setLimits_42 ?_
  refine f_puti (J := 4) rfl (by decide) rfl rfl fl_X5_129 rfl (fun _ _ _ h => by cases h; rfl) dX5_setLimits_43 ?_
  refine g_iload3 dX5_setLimits_46 ?_
  refine g_iretI rfl dX5_setLimits_47 ?_
  exact Fs.rem hI ⟨by decide, by decide⟩ (by rw [hr.f3, hr.f4]) (fun a ha => by rw [up_n (by omega), up_n (by omega), hρ]) (hr.u4.u5) ((ho.u4 h.1).u5 h.2) (Int.le_refl _) (((Ag.u5 _ _).trans (Ag.u4 _ _)))
theorem setLimits_bad {hv cr : Int} (hx : R32 hv) (hy : R32 cr) (h : ¬ ((0 ≤ hv ∧ hv ≤ 2) ∧ 0 ≤ cr ∧ cr ≤ 3)) : Ft g zX5_setLimits [.ref 0, iv hv, iv cr] σ l 0 := by
  refine Fn.of [some (.ref 0), some (iv hv), some (iv cr), none] rfl (by decide) (Nat.le_of_ble_eq_true rfl) rfl ?_
  refine g_aload0 dX5_setLimits_0 ?_
  refine g_iload1 dX5_setLimits_1 ?_
  refine g_iload2 dX5_setLimits_2 ?_
  refine f_cV2t (needLimits_bad hx hy h) rfl (by decide) rfl oY_X5_needLimits oI_X5_needLimits lk_X5_268 rfl dX5_setLimits_3 (by omega) (by omega) rfl (Or.inl rfl) rfl ?_
  exact Ft.ret
theorem setTolerance_ok {B : Int} {s : Int → Int} {n : Nat} {P : Nat → Int → Int} (hI : Ic σ l B s n P) {x : Int} (hx : R32 x) (h : 5 ≤ x ∧ x ≤ 49) : Fs g zX5_setTolerance [.ref 0, iv x] σ l (iv (s 2)) B (su s 2 x) (nP n) (pP n s P) := by
  have ho := hI.K.ok
  have hc := hI.K.st
  refine Fn.of [some (.ref 0), some (iv x), none] rfl (by decide) (Nat.le_of_ble_eq_true rfl) rfl ?_
  refine g_aload0 dX5_setTolerance_0 ?_
  refine g_iload1 dX5_setTolerance_1 ?_
  refine g_iconst dX5_setTolerance_2 ?_
  refine g_bipush dX5_setTolerance_3 (by decide) ?_
  refine f_cV3d (needRange_ok hx ⟨by decide, by decide⟩ ⟨by decide, by decide⟩ h) rfl (by decide) rfl oY_X5_needRange oI_X5_needRange lk_X5_110 rfl dX5_setTolerance_5 rfl (Or.inl rfl) ?_
  refine g_aload0 dX5_setTolerance_8 ?_
  refine g_iconst dX5_setTolerance_9 ?_
  refine f_cV1d (rem_s (kp := 1) hI ⟨by decide, by decide⟩) rfl (by decide) rfl oY_X5_remember oI_X5_remember lk_X5_280 rfl dX5_setTolerance_10 rfl (Or.inl rfl) ?_
  have hr := rem_c (kp := 1) hI
  obtain ⟨ρ, hρ⟩ : ∃ ρ, ρ = remS σ (σ 0 3).toNat 1 := ⟨_, rfl⟩
  rw [← hρ] at hr ⊢
  refine g_aload0 dX5_setTolerance_13 ?_
  refine f_getr (r := 1) rfl (by decide) rfl rfl fl_X5_10 dX5_setTolerance_14 ?_
  refine f_geti (J := 2) rfl (by decide) rfl rfl fl_X5_120 dX5_setTolerance_17 ?_
  refine g_istore2 dX5_setTolerance_20 rfl (by decide) ?_
  refine g_aload0 dX5_setTolerance_21 ?_
  refine f_getr (r := 1) rfl (by decide) rfl rfl fl_X5_10 dX5_setTolerance_22 ?_
  refine g_iload1 dX5_setTolerance_25 ?_
  refine f_puti (J := 2) rfl (by decide) rfl rfl fl_X5_120 rfl (fun _ _ _ h => by cases h; rfl) dX5_setTolerance_26 ?_
  refine g_iload2 dX5_setTolerance_29 ?_
  refine g_iretI rfl dX5_setTolerance_30 ?_
  exact Fs.rem hI ⟨by decide, by decide⟩ (by rw [hr.f2]) (fun a ha => by rw [up_n (by omega), hρ]) (hr.u2) (ho.u2 h) (Int.le_refl _) (Ag.u2 _ _)
theorem setTolerance_bad {x : Int} (hx : R32 x) (h : ¬ (5 ≤ x ∧ x ≤ 49)) : Ft g zX5_setTolerance [.ref 0, iv x] σ l 0 := by
  refine Fn.of [some (.ref 0), some (iv x), none] rfl (by decide) (Nat.le_of_ble_eq_true rfl) rfl ?_
  refine g_aload0 dX5_setTolerance_0 ?_
  refine g_iload1 dX5_setTolerance_1 ?_
  refine g_iconst dX5_setTolerance_2 ?_
  refine g_bipush dX5_setTolerance_3 (by decide) ?_
  refine f_cV3t (needRange_bad hx ⟨by decide, by decide⟩ ⟨by decide, by decide⟩ h) rfl (by decide) rfl oY_X5_needRange oI_X5_needRange lk_X5_110 rfl dX5_setTolerance_5 (by omega) (by omega) rfl (Or.inl rfl) rfl ?_
  exact Ft.ret
theorem setCosts_ok {B : Int} {s : Int → Int} {n : Nat} {P : Nat → Int → Int} (hI : Ic σ l B s n P) {x y z : Int} (hx : R32 x) (hy : R32 y) (hz : R32 z) (h : (1 ≤ x ∧ x ≤ 9) ∧ (1 ≤ y ∧ y ≤ 9) ∧ 0 ≤ z ∧ z ≤ 9) : Fs g zX5_setCosts [.ref 0, iv x, iv y, iv z] σ l (iv (s 6)) B (su (su (su s 6 x) 7 y) 8 z) (nP n) (pP n s P) := by
  have ho := hI.K.ok
  have hc := hI.K.st
  refine Fn.of [some (.ref 0), some (iv x), some (iv y), some (iv z), none] rfl (by decide) (Nat.le_of_ble_eq_true rfl) rfl ?_
  refine g_aload0 dX5_setCosts_0 ?_
  refine g_iload1 dX5_setCosts_1 ?_
  refine g_iconst dX5_setCosts_2 ?_
  refine g_bipush dX5_setCosts_3 (by decide) ?_
  refine f_cV3d (needRange_ok hx ⟨by decide, by decide⟩ ⟨by decide, by decide⟩ h.1) rfl (by decide) rfl oY_X5_needRange oI_X5_needRange lk_X5_110 rfl dX5_setCosts_5 rfl (Or.inl rfl) ?_
  refine g_aload0 dX5_setCosts_8 ?_
  refine g_iload2 dX5_setCosts_9 ?_
  refine g_iconst dX5_setCosts_10 ?_
  refine g_bipush dX5_setCosts_11 (by decide) ?_
  refine f_cV3d (needRange_ok hy ⟨by decide, by decide⟩ ⟨by decide, by decide⟩ h.2.1) rfl (by decide) rfl oY_X5_needRange oI_X5_needRange lk_X5_110 rfl dX5_setCosts_13 rfl (Or.inl rfl) ?_
  refine g_aload0 dX5_setCosts_16 ?_
  refine g_iload3 dX5_setCosts_17 ?_
  refine g_iconst dX5_setCosts_18 ?_
  refine g_bipush dX5_setCosts_19 (by decide) ?_
  refine f_cV3d (needRange_ok hz ⟨by decide, by decide⟩ ⟨by decide, by decide⟩ h.2.2) rfl (by decide) rfl oY_X5_needRange oI_X5_needRange lk_X5_110 rfl dX5_setCosts_21 rfl (Or.inl rfl) ?_
  refine g_aload0 dX5_setCosts_24 ?_
  refine g_iconst dX5_setCosts_25 ?_
  refine f_cV1d (rem_s (kp := 2) hI ⟨by decide, by decide⟩) rfl (by decide) rfl oY_X5_remember oI_X5_remember lk_X5_280 rfl dX5_setCosts_26 rfl (Or.inl rfl) ?_
  have hr := rem_c (kp := 2) hI
  obtain ⟨ρ, hρ⟩ : ∃ ρ, ρ = remS σ (σ 0 3).toNat 2 := ⟨_, rfl⟩
  rw [← hρ] at hr ⊢
  refine g_aload0 dX5_setCosts_29 ?_
  refine f_getr (r := 1) rfl (by decide) rfl rfl fl_X5_10 dX5_setCosts_30 ?_
  refine f_geti (J := 5) rfl (by decide) rfl rfl fl_X5_132 dX5_setCosts_33 ?_
  refine g_istore4 dX5_setCosts_36 rfl (by decide) ?_
  refine g_aload0 dX5_setCosts_38 ?_
  refine f_getr (r := 1) rfl (by decide) rfl rfl fl_X5_10 dX5_setCosts_39 ?_
  refine g_iload1 dX5_setCosts_42 ?_
  refine f_puti (J := 5) rfl (by decide) rfl rfl fl_X5_132 rfl (fun _ _ _ h => by cases h; rfl) dX5_setCosts_43 ?_
  refine g_aload0 dX5_setCosts_46 ?_
  refine f_getr (r := 1) rfl (by decide) rfl rfl fl_X5_10 dX5_setCosts_47 ?_
  refine g_iload2 dX5_setCosts_50 ?_
  refine f_puti (J := 6) rfl (by decide) rfl rfl fl_X5_135 rfl (fun _ _ _ h => by cases h; rfl) dX5_setCosts_51 ?_
  refine g_aload0 dX5_setCosts_54 ?_
  refine f_getr (r := 1) rfl (by decide) rfl rfl fl_X5_10 dX5_setCosts_55 ?_
  refine g_iload3 dX5_setCosts_58 ?_
  refine f_puti (J := 7) rfl (by decide) rfl rfl fl_X5_138 rfl (fun _ _ _ h => by cases h; rfl) dX5_setCosts_59 ?_
  refine g_iload4 dX5_setCosts_62 ?_
  refine g_iretI rfl dX5_setCosts_64 ?_
  exact Fs.rem hI ⟨by decide, by decide⟩ (by rw [hr.f5]) (fun a ha => by rw [up_n (by omega), up_n (by omega), up_n (by omega), hρ]) (hr.u6.u7.u8) (((ho.u6 h.1).u7 h.2.1).u8 h.2.2) (Int.le_refl _) (((Ag.u8 _ _).trans (Ag.u7 _ _)).trans (Ag.u6 _ _))
theorem setCosts_bad {x y z : Int} (hx : R32 x) (hy : R32 y) (hz : R32 z) (h : ¬ ((1 ≤ x ∧ x ≤ 9) ∧ (1 ≤ y ∧ y ≤ 9) ∧ 0 ≤ z ∧ z ≤ 9)) : Ft g zX5_setCosts [.ref 0, iv x, iv y, iv z] σ l 0 := by
  refine Fn.of [some (.ref 0), some (iv x), some (iv y), some (iv z), none] rfl (by decide) (Nat.le_of_ble_eq_true rfl) rfl ?_
  by_cases h1 : 1 ≤ x ∧ x ≤ 9
  · by_cases h2 : 1 ≤ y ∧ y ≤ 9
    · refine g_aload0 dX5_setCosts_0 ?_
      refine g_iload1 dX5_setCosts_1 ?_
      refine g_iconst dX5_setCosts_2 ?_
      refine g_bipush dX5_setCosts_3 (by decide) ?_
      refine f_cV3d (needRange_ok hx ⟨by decide, by decide⟩ ⟨by decide, by decide⟩ h1) rfl (by decide) rfl oY_X5_needRange oI_X5_needRange lk_X5_110 rfl dX5_setCosts_5 rfl (Or.inl rfl) ?_
      refine g_aload0 dX5_setCosts_8 ?_
      refine g_iload2 dX5_setCosts_9 ?_
      refine g_iconst dX5_setCosts_10 ?_
      refine g_bipush dX5_setCosts_11 (by decide) ?_
      refine f_cV3d (needRange_ok hy ⟨by decide, by decide⟩ ⟨by decide, by decide⟩ h2) rfl (by decide) rfl oY_X5_needRange oI_X5_needRange lk_X5_110 rfl dX5_setCosts_13 rfl (Or.inl rfl) ?_
      refine g_aload0 dX5_setCosts_16 ?_
      refine g_iload3 dX5_setCosts_17 ?_
      refine g_iconst dX5_setCosts_18 ?_
      refine g_bipush dX5_setCosts_19 (by decide) ?_
      refine f_cV3t (needRange_bad hz ⟨by decide, by decide⟩ ⟨by decide, by decide⟩ (fun w => h ⟨h1, h2, w⟩)) rfl (by decide) rfl oY_X5_needRange oI_X5_needRange lk_X5_110 rfl dX5_setCosts_21 (by omega) (by omega) rfl (Or.inl rfl) rfl ?_
      exact Ft.ret
    · refine g_aload0 dX5_setCosts_0 ?_
      refine g_iload1 dX5_setCosts_1 ?_
      refine g_iconst dX5_setCosts_2 ?_
      refine g_bipush dX5_setCosts_3 (by decide) ?_
      refine f_cV3d (needRange_ok hx ⟨by decide, by decide⟩ ⟨by decide, by decide⟩ h1) rfl (by decide) rfl oY_X5_needRange oI_X5_needRange lk_X5_110 rfl dX5_setCosts_5 rfl (Or.inl rfl) ?_
      refine g_aload0 dX5_setCosts_8 ?_
      refine g_iload2 dX5_setCosts_9 ?_
      refine g_iconst dX5_setCosts_10 ?_
      refine g_bipush dX5_setCosts_11 (by decide) ?_
      refine f_cV3t (needRange_bad hy ⟨by decide, by decide⟩ ⟨by decide, by decide⟩ h2) rfl (by decide) rfl oY_X5_needRange oI_X5_needRange lk_X5_110 rfl dX5_setCosts_13 (by omega) (by omega) rfl (Or.inl rfl) rfl ?_
      exact Ft.ret
  · refine g_aload0 dX5_setCosts_0 ?_
    refine g_iload1 dX5_setCosts_1 ?_
    refine g_iconst dX5_setCosts_2 ?_
    refine g_bipush dX5_setCosts_3 (by decide) ?_
    refine f_cV3t (needRange_bad hx ⟨by decide, by decide⟩ ⟨by decide, by decide⟩ h1) rfl (by decide) rfl oY_X5_needRange oI_X5_needRange lk_X5_110 rfl dX5_setCosts_5 (by omega) (by omega) rfl (Or.inl rfl) rfl ?_
    exact Ft.ret
theorem rewind_ok {B : Int} {s : Int → Int} {n : Nat} {P : Nat → Int → Int} (hI : Ic σ l B s n P) {x : Int} (hx : R32 x) (h : x = 0 ∨ 0 ≤ x ∧ x < s 9) : Fs g zX5_rewind [.ref 0, iv x] σ l (iv (s 12)) B (su s 12 x) (nP n) (pP n s P) := by
  have ho := hI.K.ok
  have hc := hI.K.st
  refine Fn.of [some (.ref 0), some (iv x), none] rfl (by decide) (Nat.le_of_ble_eq_true rfl) rfl ?_
  refine g_iload1 dX5_rewind_0 ?_
  refine g_if_eq hx (tgt := 9) dX5_rewind_1 rfl (fun h1 => ?_) (fun h1 => ?_)
  · refine g_aload0 dX5_rewind_9 ?_
    refine g_iconst dX5_rewind_10 ?_
    refine f_cV1d (rem_s (kp := 3) hI ⟨by decide, by decide⟩) rfl (by decide) rfl oY_X5_remember oI_X5_remember lk_X5_280 rfl dX5_rewind_11 rfl (Or.inl rfl) ?_
    have hr := rem_c (kp := 3) hI
    obtain ⟨ρ, hρ⟩ : ∃ ρ, ρ = remS σ (σ 0 3).toNat 3 := ⟨_, rfl⟩
    rw [← hρ] at hr ⊢
    refine g_aload0 dX5_rewind_14 ?_
    refine f_getr (r := 1) rfl (by decide) rfl rfl fl_X5_10 dX5_rewind_15 ?_
    refine f_geti (J := 12) rfl (by decide) rfl rfl fl_X5_154 dX5_rewind_18 ?_
    refine g_istore2 dX5_rewind_21 rfl (by decide) ?_
    refine g_aload0 dX5_rewind_22 ?_
    refine f_getr (r := 1) rfl (by decide) rfl rfl fl_X5_10 dX5_rewind_23 ?_
    refine g_iload1 dX5_rewind_26 ?_
    refine f_puti (J := 12) rfl (by decide) rfl rfl fl_X5_154 rfl (fun _ _ _ h => by cases h; rfl) dX5_rewind_27 ?_
    refine g_iload2 dX5_rewind_30 ?_
    refine g_iretI rfl dX5_rewind_31 ?_
    exact Fs.rem hI ⟨by decide, by decide⟩ (by rw [hr.f12]) (fun a ha => by rw [up_n (by omega), hρ]) (hr.u12) (ho.u12 (by omega)) (Int.le_refl _) (Ag.u12 _ _)
  · refine g_aload0 dX5_rewind_4 ?_
    refine g_iload1 dX5_rewind_5 ?_
    refine f_cV1d (needNote_ok ho hc hx (h.resolve_left h1)) rfl (by decide) rfl oY_X5_needNote oI_X5_needNote lk_X5_239 rfl dX5_rewind_6 rfl (Or.inl rfl) ?_
    refine g_aload0 dX5_rewind_9 ?_
    refine g_iconst dX5_rewind_10 ?_
    refine f_cV1d (rem_s (kp := 3) hI ⟨by decide, by decide⟩) rfl (by decide) rfl oY_X5_remember oI_X5_remember lk_X5_280 rfl dX5_rewind_11 rfl (Or.inl rfl) ?_
    have hr := rem_c (kp := 3) hI
    obtain ⟨ρ, hρ⟩ : ∃ ρ, ρ = remS σ (σ 0 3).toNat 3 := ⟨_, rfl⟩
    rw [← hρ] at hr ⊢
    refine g_aload0 dX5_rewind_14 ?_
    refine f_getr (r := 1) rfl (by decide) rfl rfl fl_X5_10 dX5_rewind_15 ?_
    refine f_geti (J := 12) rfl (by decide) rfl rfl fl_X5_154 dX5_rewind_18 ?_
    refine g_istore2 dX5_rewind_21 rfl (by decide) ?_
    refine g_aload0 dX5_rewind_22 ?_
    refine f_getr (r := 1) rfl (by decide) rfl rfl fl_X5_10 dX5_rewind_23 ?_
    refine g_iload1 dX5_rewind_26 ?_
    refine f_puti (J := 12) rfl (by decide) rfl rfl fl_X5_154 rfl (fun _ _ _ h => by cases h; rfl) dX5_rewind_27 ?_
    refine g_iload2 dX5_rewind_30 ?_
    refine g_iretI rfl dX5_rewind_31 ?_
    exact Fs.rem hI ⟨by decide, by decide⟩ (by rw [hr.f12]) (fun a ha => by rw [up_n (by omega), hρ]) (hr.u12) (ho.u12 (by omega)) (Int.le_refl _) (Ag.u12 _ _)
theorem rewind_bad {B : Int} {s : Int → Int} (ho : SOK B s) (hc : CSt σ 1 s) {x : Int} (hx : R32 x) (h : ¬ (x = 0 ∨ 0 ≤ x ∧ x < s 9)) : Ft g zX5_rewind [.ref 0, iv x] σ l 1 := by
  refine Fn.of [some (.ref 0), some (iv x), none] rfl (by decide) (Nat.le_of_ble_eq_true rfl) rfl ?_
  refine g_iload1 dX5_rewind_0 ?_
  refine g_if_eq hx (tgt := 9) dX5_rewind_1 rfl (fun h1 => absurd h1 (fun z => h (Or.inl z))) (fun h1 => ?_)
  refine g_aload0 dX5_rewind_4 ?_
  refine g_iload1 dX5_rewind_5 ?_
  refine f_cV1t (needNote_bad ho hc hx (fun z => h (Or.inr z))) rfl (by decide) rfl oY_X5_needNote oI_X5_needNote lk_X5_239 rfl dX5_rewind_6 (by omega) (by omega) rfl (Or.inl rfl) rfl ?_
  exact Ft.ret
theorem SOK.uh {B : Int} {s : Int → Int} {h : Nat} {x z : Int} (ho : SOK B s) (hh : h < 7) (hx : 1 ≤ x ∧ x ≤ 600) (hz : 2 ≤ z ∧ z ≤ 15) : SOK B (su (su s (13 + 2 * (h : Int)) x) (14 + 2 * (h : Int)) z) := by
  have e : ∀ k : Int, k < 13 → su (su s (13 + 2 * (h : Int)) x) (14 + 2 * (h : Int)) z k = s k := fun k hk => by rw [su_ne (by omega), su_ne (by omega)]
  have eH : wH (su (su s (13 + 2 * (h : Int)) x) (14 + 2 * (h : Int)) z) = wH s := by unfold wH; rw [e 3 (by decide)]
  refine ⟨?_, ?_, ?_, ?_, ?_, ?_, ?_, ?_, ?_, ?_, ?_, ?_, ?_, ?_, ?_⟩
  · rw [e 0 (by decide)]; exact ho.len
  · rw [e 1 (by decide)]; exact ho.bore
  · rw [e 2 (by decide)]; exact ho.tol
  · rw [e 3 (by decide)]; exact ho.holes
  · rw [e 4 (by decide)]; exact ho.halves
  · rw [e 5 (by decide)]; exact ho.crosses
  · rw [e 6 (by decide)]; exact ho.move
  · rw [e 7 (by decide)]; exact ho.half
  · rw [e 8 (by decide)]; exact ho.breath
  · rw [e 9 (by decide)]; exact ho.notes
  · rw [eH, e 10 (by decide)]; exact ho.play
  · rw [e 11 (by decide)]; exact ho.spent
  · rw [e 12 (by decide), e 9 (by decide)]; exact ho.place
  · intro k k0 k1
    rw [e 3 (by decide)] at k1
    have b := ho.hol k k0 k1
    unfold wPl wSz at b ⊢
    have e1 : su (su s (13 + 2 * (h : Int)) x) (14 + 2 * (h : Int)) z (13 + 2 * (k.toNat : Int)) = if k.toNat = h then x else s (13 + 2 * (k.toNat : Int)) := by
      rw [su_ne (by omega)]
      unfold su
      by_cases c : k.toNat = h
      · rw [if_pos c, if_pos (by omega)]
      · rw [if_neg c, if_neg (by omega)]
    have e2 : su (su s (13 + 2 * (h : Int)) x) (14 + 2 * (h : Int)) z (14 + 2 * (k.toNat : Int)) = if k.toNat = h then z else s (14 + 2 * (k.toNat : Int)) := by
      by_cases c : k.toNat = h
      · rw [if_pos c, c, su_eq]
      · rw [if_neg c, su_ne (by omega), su_ne (by omega)]
    rw [e1, e2]
    split
    · exact ⟨hx.1, hx.2, hz.1, hz.2⟩
    · exact b
  · intro k k0 k1
    rw [e 9 (by decide)] at k1
    have b := ho.tune k k0 k1
    unfold wTu at b ⊢
    rw [su_ne (by omega), su_ne (by omega)]
    exact b
theorem setHole_ok {B : Int} {s : Int → Int} {n : Nat} {P : Nat → Int → Int} (hI : Ic σ l B s n P) {h : Nat} (hh : h < wH s) {x z : Int} (hx : R32 x) (hz : R32 z) (h1 : 1 ≤ x ∧ x ≤ s 0 - 1) (h2 : 2 ≤ z ∧ z ≤ 15) (hcd : ((h : Int) = 0 ∨ wPl s ((h : Int) - 1) < x) ∧ ((h : Int) = s 3 - 1 ∨ x < wPl s ((h : Int) + 1))) : Fs g zX5_setHole [.ref 0, iv (h : Int), iv x, iv z] σ l (iv (wPl s h)) B (su (su s (13 + 2 * (h : Int)) x) (14 + 2 * (h : Int)) z) (nP n) (pP n s P) := by
  have ho := hI.K.ok
  have hc := hI.K.st
  have hln := ho.len
  have hho := ho.hI
  have h7 := ho.h7
  refine Fn.of [some (.ref 0), some (iv (h : Int)), some (iv x), some (iv z), none, none, none] rfl (by decide) (Nat.le_of_ble_eq_true rfl) rfl ?_
  refine g_aload0 dX5_setHole_0 ?_
  refine g_iload1 dX5_setHole_1 ?_
  refine f_cV1d (needHole_ok ho hc ⟨by omega, by have := ho.h7; omega⟩ ⟨by omega, by rw [ho.hI]; omega⟩) rfl (by decide) rfl oY_X5_needHole oI_X5_needHole lk_X5_157 rfl dX5_setHole_2 rfl (Or.inl rfl) ?_
  refine g_aload0 dX5_setHole_5 ?_
  refine g_iload2 dX5_setHole_6 ?_
  refine g_iconst dX5_setHole_7 ?_
  refine g_aload0 dX5_setHole_8 ?_
  refine f_getr (r := 1) rfl (by decide) rfl rfl fl_X5_10 dX5_setHole_9 ?_
  refine f_geti (J := 0) rfl (by decide) rfl rfl fl_X5_114 dX5_setHole_12 ?_
  rw [hc.f0]
  refine g_iconst dX5_setHole_15 ?_
  refine g_isub dX5_setHole_16 ?_
  refine f_cV3d (needRange_ok hx ⟨by decide, by decide⟩ ⟨by omega, by omega⟩ h1) rfl (by decide) rfl oY_X5_needRange oI_X5_needRange lk_X5_110 rfl dX5_setHole_17 rfl (Or.inl rfl) ?_
  refine g_aload0 dX5_setHole_20 ?_
  refine g_iload3 dX5_setHole_21 ?_
  refine g_iconst dX5_setHole_22 ?_
  refine g_bipush dX5_setHole_23 (by decide) ?_
  refine f_cV3d (needRange_ok hz ⟨by decide, by decide⟩ ⟨by decide, by decide⟩ h2) rfl (by decide) rfl oY_X5_needRange oI_X5_needRange lk_X5_110 rfl dX5_setHole_25 rfl (Or.inl rfl) ?_
  refine g_iload1 dX5_setHole_28 ?_
  refine g_if_eq ⟨by omega, by omega⟩ (tgt := 49) dX5_setHole_29 rfl (fun h29 => ?_) (fun h29 => ?_)
  · refine g_iconst dX5_setHole_49 ?_
    refine g_goto (tgt := 54) dX5_setHole_50 rfl ?_
    refine g_istore4 dX5_setHole_54 rfl (by decide) ?_
    refine g_iload1 dX5_setHole_56 ?_
    refine g_aload0 dX5_setHole_57 ?_
    refine f_getr (r := 1) rfl (by decide) rfl rfl fl_X5_10 dX5_setHole_58 ?_
    refine f_geti (J := 8) rfl (by decide) rfl rfl fl_X5_123 dX5_setHole_61 ?_
    rw [hc.f8]
    refine g_iconst dX5_setHole_64 ?_
    refine g_isub dX5_setHole_65 ?_
    refine g_icmp_eq ⟨by omega, by omega⟩ ⟨by omega, by omega⟩ (tgt := 86) dX5_setHole_66 rfl (fun h66 => ?_) (fun h66 => ?_)
    · refine g_iconst dX5_setHole_86 ?_
      refine g_goto (tgt := 91) dX5_setHole_87 rfl ?_
      refine g_istore5 dX5_setHole_91 rfl (by decide) ?_
      refine g_iload4 dX5_setHole_93 ?_
      refine g_if_eq ⟨by decide, by decide⟩ (tgt := 103) dX5_setHole_95 rfl (fun h95 => absurd h95 (by decide)) (fun h95 => ?_)
      refine g_iload5 dX5_setHole_98 ?_
      refine g_if_ne ⟨by decide, by decide⟩ (tgt := 106) dX5_setHole_100 rfl (fun h100 => ?_) (fun h100 => absurd h100 (by decide))
      refine g_aload0 dX5_setHole_106 ?_
      refine g_iconst dX5_setHole_107 ?_
      refine f_cV1d (rem_s (kp := 0) hI ⟨by decide, by decide⟩) rfl (by decide) rfl oY_X5_remember oI_X5_remember lk_X5_280 rfl dX5_setHole_108 rfl (Or.inl rfl) ?_
      have hr := rem_c (kp := 0) hI
      obtain ⟨ρ, hρ⟩ : ∃ ρ, ρ = remS σ (σ 0 3).toNat 0 := ⟨_, rfl⟩
      rw [← hρ] at hr ⊢
      refine g_aload0 dX5_setHole_111 ?_
      refine f_getr (r := 1) rfl (by decide) rfl rfl fl_X5_10 dX5_setHole_112 ?_
      refine f_getr (r := 2) rfl (by decide) rfl rfl fl_X5_161 dX5_setHole_115 ?_
      refine g_iload1 dX5_setHole_118 ?_
      refine f_cS2w (atI rfl (by decide) (by omega) (by show (h : Int) < (7 : Nat); omega)) oY_X5_at oT_X5_at lk_X5_164 rfl dX5_setHole_119 rfl (Or.inl rfl) ?_
      rw [hr.pl _ (by omega) (by rw [ho.hI]; omega)]
      refine g_istore6 dX5_setHole_122 rfl (by decide) ?_
      refine g_aload0 dX5_setHole_124 ?_
      refine f_getr (r := 1) rfl (by decide) rfl rfl fl_X5_10 dX5_setHole_125 ?_
      refine f_getr (r := 2) rfl (by decide) rfl rfl fl_X5_161 dX5_setHole_128 ?_
      refine g_iload1 dX5_setHole_131 ?_
      refine g_iload2 dX5_setHole_132 ?_
      refine f_cS3d (putI rfl (by decide) (by omega) (by show (h : Int) < (7 : Nat); omega)) oY_X5_put oT_X5_put lk_X5_283 rfl dX5_setHole_133 rfl (Or.inl rfl) ?_
      refine g_aload0 dX5_setHole_136 ?_
      refine f_getr (r := 1) rfl (by decide) rfl rfl fl_X5_10 dX5_setHole_137 ?_
      refine f_getr (r := 3) rfl (by decide) rfl rfl fl_X5_168 dX5_setHole_140 ?_
      refine g_iload1 dX5_setHole_143 ?_
      refine g_iload3 dX5_setHole_144 ?_
      refine f_cS3d (putI rfl (by decide) (by omega) (by show (h : Int) < (7 : Nat); omega)) oY_X5_put oT_X5_put lk_X5_283 rfl dX5_setHole_145 rfl (Or.inl rfl) ?_
      refine g_iload6 dX5_setHole_148 ?_
      refine g_iretI rfl dX5_setHole_150 ?_
      exact Fs.rem (kp := 0) hI ⟨by decide, by decide⟩ rfl (fun a ha => by rw [up_n (by omega), up_n (by omega), hρ]) ((hr.pa (by omega)).za (by omega)) (ho.uh (by omega) (by omega) h2) (Int.le_refl _) ⟨fun w => absurd w (by decide), fun w => absurd w (by decide), fun w => absurd w (by decide)⟩
    · refine g_iload2 dX5_setHole_69 ?_
      refine g_aload0 dX5_setHole_70 ?_
      refine f_getr (r := 1) rfl (by decide) rfl rfl fl_X5_10 dX5_setHole_71 ?_
      refine f_getr (r := 2) rfl (by decide) rfl rfl fl_X5_161 dX5_setHole_74 ?_
      refine g_iload1 dX5_setHole_77 ?_
      refine g_iconst dX5_setHole_78 ?_
      refine g_iadd dX5_setHole_79 ?_
      refine f_cS2w (atI rfl (by decide) (by omega) (by show (h : Int) + 1 < (7 : Nat); omega)) oY_X5_at oT_X5_at lk_X5_164 rfl dX5_setHole_80 rfl (Or.inl rfl) ?_
      rw [hc.pl _ (by omega) (by rw [ho.hI]; omega)]
      have b2 := ho.hol ((h : Int) + 1) (by omega) (by rw [ho.hI]; omega)
      refine g_icmp_ge hx ⟨by omega, by omega⟩ (tgt := 90) dX5_setHole_83 rfl (fun h83 => ?_) (fun h83 => ?_)
      · refine g_iconst dX5_setHole_90 ?_
        refine g_istore5 dX5_setHole_91 rfl (by decide) ?_
        refine g_iload4 dX5_setHole_93 ?_
        refine g_if_eq ⟨by decide, by decide⟩ (tgt := 103) dX5_setHole_95 rfl (fun h95 => absurd h95 (by decide)) (fun h95 => ?_)
        refine g_iload5 dX5_setHole_98 ?_
        refine g_if_ne ⟨by decide, by decide⟩ (tgt := 106) dX5_setHole_100 rfl (fun h100 => absurd h100 (by decide)) (fun h100 => ?_)
        refine g_bipush dX5_setHole_103 (by decide) ?_
        refine g_iretI rfl dX5_setHole_105 ?_
        exact absurd hcd (fun w => by omega)
      · refine g_iconst dX5_setHole_86 ?_
        refine g_goto (tgt := 91) dX5_setHole_87 rfl ?_
        refine g_istore5 dX5_setHole_91 rfl (by decide) ?_
        refine g_iload4 dX5_setHole_93 ?_
        refine g_if_eq ⟨by decide, by decide⟩ (tgt := 103) dX5_setHole_95 rfl (fun h95 => absurd h95 (by decide)) (fun h95 => ?_)
        refine g_iload5 dX5_setHole_98 ?_
        refine g_if_ne ⟨by decide, by decide⟩ (tgt := 106) dX5_setHole_100 rfl (fun h100 => ?_) (fun h100 => absurd h100 (by decide))
        refine g_aload0 dX5_setHole_106 ?_
        refine g_iconst dX5_setHole_107 ?_
        refine f_cV1d (rem_s (kp := 0) hI ⟨by decide, by decide⟩) rfl (by decide) rfl oY_X5_remember oI_X5_remember lk_X5_280 rfl dX5_setHole_108 rfl (Or.inl rfl) ?_
        have hr := rem_c (kp := 0) hI
        obtain ⟨ρ, hρ⟩ : ∃ ρ, ρ = remS σ (σ 0 3).toNat 0 := ⟨_, rfl⟩
        rw [← hρ] at hr ⊢
        refine g_aload0 dX5_setHole_111 ?_
        refine f_getr (r := 1) rfl (by decide) rfl rfl fl_X5_10 dX5_setHole_112 ?_
        refine f_getr (r := 2) rfl (by decide) rfl rfl fl_X5_161 dX5_setHole_115 ?_
        refine g_iload1 dX5_setHole_118 ?_
        refine f_cS2w (atI rfl (by decide) (by omega) (by show (h : Int) < (7 : Nat); omega)) oY_X5_at oT_X5_at lk_X5_164 rfl dX5_setHole_119 rfl (Or.inl rfl) ?_
        rw [hr.pl _ (by omega) (by rw [ho.hI]; omega)]
        refine g_istore6 dX5_setHole_122 rfl (by decide) ?_
        refine g_aload0 dX5_setHole_124 ?_
        refine f_getr (r := 1) rfl (by decide) rfl rfl fl_X5_10 dX5_setHole_125 ?_
        refine f_getr (r := 2) rfl (by decide) rfl rfl fl_X5_161 dX5_setHole_128 ?_
        refine g_iload1 dX5_setHole_131 ?_
        refine g_iload2 dX5_setHole_132 ?_
        refine f_cS3d (putI rfl (by decide) (by omega) (by show (h : Int) < (7 : Nat); omega)) oY_X5_put oT_X5_put lk_X5_283 rfl dX5_setHole_133 rfl (Or.inl rfl) ?_
        refine g_aload0 dX5_setHole_136 ?_
        refine f_getr (r := 1) rfl (by decide) rfl rfl fl_X5_10 dX5_setHole_137 ?_
        refine f_getr (r := 3) rfl (by decide) rfl rfl fl_X5_168 dX5_setHole_140 ?_
        refine g_iload1 dX5_setHole_143 ?_
        refine g_iload3 dX5_setHole_144 ?_
        refine f_cS3d (putI rfl (by decide) (by omega) (by show (h : Int) < (7 : Nat); omega)) oY_X5_put oT_X5_put lk_X5_283 rfl dX5_setHole_145 rfl (Or.inl rfl) ?_
        refine g_iload6 dX5_setHole_148 ?_
        refine g_iretI rfl dX5_setHole_150 ?_
        exact Fs.rem (kp := 0) hI ⟨by decide, by decide⟩ rfl (fun a ha => by rw [up_n (by omega), up_n (by omega), hρ]) ((hr.pa (by omega)).za (by omega)) (ho.uh (by omega) (by omega) h2) (Int.le_refl _) ⟨fun w => absurd w (by decide), fun w => absurd w (by decide), fun w => absurd w (by decide)⟩
  · refine g_iload2 dX5_setHole_32 ?_
    refine g_aload0 dX5_setHole_33 ?_
    refine f_getr (r := 1) rfl (by decide) rfl rfl fl_X5_10 dX5_setHole_34 ?_
    refine f_getr (r := 2) rfl (by decide) rfl rfl fl_X5_161 dX5_setHole_37 ?_
    refine g_iload1 dX5_setHole_40 ?_
    refine g_iconst dX5_setHole_41 ?_
    refine g_isub dX5_setHole_42 ?_
    refine f_cS2w (atI rfl (by decide) (by omega) (by show (h : Int) - 1 < (7 : Nat); omega)) oY_X5_at oT_X5_at lk_X5_164 rfl dX5_setHole_43 rfl (Or.inl rfl) ?_
    rw [hc.pl _ (by omega) (by rw [ho.hI]; omega)]
    have b1 := ho.hol ((h : Int) - 1) (by omega) (by rw [ho.hI]; omega)
    refine g_icmp_le hx ⟨by omega, by omega⟩ (tgt := 53) dX5_setHole_46 rfl (fun h46 => ?_) (fun h46 => ?_)
    · refine g_iconst dX5_setHole_53 ?_
      refine g_istore4 dX5_setHole_54 rfl (by decide) ?_
      refine g_iload1 dX5_setHole_56 ?_
      refine g_aload0 dX5_setHole_57 ?_
      refine f_getr (r := 1) rfl (by decide) rfl rfl fl_X5_10 dX5_setHole_58 ?_
      refine f_geti (J := 8) rfl (by decide) rfl rfl fl_X5_123 dX5_setHole_61 ?_
      rw [hc.f8]
      refine g_iconst dX5_setHole_64 ?_
      refine g_isub dX5_setHole_65 ?_
      refine g_icmp_eq ⟨by omega, by omega⟩ ⟨by omega, by omega⟩ (tgt := 86) dX5_setHole_66 rfl (fun h66 => ?_) (fun h66 => ?_)
      · refine g_iconst dX5_setHole_86 ?_
        refine g_goto (tgt := 91) dX5_setHole_87 rfl ?_
        refine g_istore5 dX5_setHole_91 rfl (by decide) ?_
        refine g_iload4 dX5_setHole_93 ?_
        refine g_if_eq ⟨by decide, by decide⟩ (tgt := 103) dX5_setHole_95 rfl (fun h95 => ?_) (fun h95 => absurd h95 (by decide))
        refine g_bipush dX5_setHole_103 (by decide) ?_
        refine g_iretI rfl dX5_setHole_105 ?_
        exact absurd hcd (fun w => by omega)
      · refine g_iload2 dX5_setHole_69 ?_
        refine g_aload0 dX5_setHole_70 ?_
        refine f_getr (r := 1) rfl (by decide) rfl rfl fl_X5_10 dX5_setHole_71 ?_
        refine f_getr (r := 2) rfl (by decide) rfl rfl fl_X5_161 dX5_setHole_74 ?_
        refine g_iload1 dX5_setHole_77 ?_
        refine g_iconst dX5_setHole_78 ?_
        refine g_iadd dX5_setHole_79 ?_
        refine f_cS2w (atI rfl (by decide) (by omega) (by show (h : Int) + 1 < (7 : Nat); omega)) oY_X5_at oT_X5_at lk_X5_164 rfl dX5_setHole_80 rfl (Or.inl rfl) ?_
        rw [hc.pl _ (by omega) (by rw [ho.hI]; omega)]
        have b2 := ho.hol ((h : Int) + 1) (by omega) (by rw [ho.hI]; omega)
        refine g_icmp_ge hx ⟨by omega, by omega⟩ (tgt := 90) dX5_setHole_83 rfl (fun h83 => ?_) (fun h83 => ?_)
        · refine g_iconst dX5_setHole_90 ?_
          refine g_istore5 dX5_setHole_91 rfl (by decide) ?_
          refine g_iload4 dX5_setHole_93 ?_
          refine g_if_eq ⟨by decide, by decide⟩ (tgt := 103) dX5_setHole_95 rfl (fun h95 => ?_) (fun h95 => absurd h95 (by decide))
          refine g_bipush dX5_setHole_103 (by decide) ?_
          refine g_iretI rfl dX5_setHole_105 ?_
          exact absurd hcd (fun w => by omega)
        · refine g_iconst dX5_setHole_86 ?_
          refine g_goto (tgt := 91) dX5_setHole_87 rfl ?_
          refine g_istore5 dX5_setHole_91 rfl (by decide) ?_
          refine g_iload4 dX5_setHole_93 ?_
          refine g_if_eq ⟨by decide, by decide⟩ (tgt := 103) dX5_setHole_95 rfl (fun h95 => ?_) (fun h95 => absurd h95 (by decide))
          refine g_bipush dX5_setHole_103 (by decide) ?_
          refine g_iretI rfl dX5_setHole_105 ?_
          exact absurd hcd (fun w => by omega)
    · refine g_iconst dX5_setHole_49 ?_
      refine g_goto (tgt := 54) dX5_setHole_50 rfl ?_
      refine g_istore4 dX5_setHole_54 rfl (by decide) ?_
      refine g_iload1 dX5_setHole_56 ?_
      refine g_aload0 dX5_setHole_57 ?_
      refine f_getr (r := 1) rfl (by decide) rfl rfl fl_X5_10 dX5_setHole_58 ?_
      refine f_geti (J := 8) rfl (by decide) rfl rfl fl_X5_123 dX5_setHole_61 ?_
      rw [hc.f8]
      refine g_iconst dX5_setHole_64 ?_
      refine g_isub dX5_setHole_65 ?_
      refine g_icmp_eq ⟨by omega, by omega⟩ ⟨by omega, by omega⟩ (tgt := 86) dX5_setHole_66 rfl (fun h66 => ?_) (fun h66 => ?_)
      · refine g_iconst dX5_setHole_86 ?_
        refine g_goto (tgt := 91) dX5_setHole_87 rfl ?_
        refine g_istore5 dX5_setHole_91 rfl (by decide) ?_
        refine g_iload4 dX5_setHole_93 ?_
        refine g_if_eq ⟨by decide, by decide⟩ (tgt := 103) dX5_setHole_95 rfl (fun h95 => absurd h95 (by decide)) (fun h95 => ?_)
        refine g_iload5 dX5_setHole_98 ?_
        refine g_if_ne ⟨by decide, by decide⟩ (tgt := 106) dX5_setHole_100 rfl (fun h100 => ?_) (fun h100 => absurd h100 (by decide))
        refine g_aload0 dX5_setHole_106 ?_
        refine g_iconst dX5_setHole_107 ?_
        refine f_cV1d (rem_s (kp := 0) hI ⟨by decide, by decide⟩) rfl (by decide) rfl oY_X5_remember oI_X5_remember lk_X5_280 rfl dX5_setHole_108 rfl (Or.inl rfl) ?_
        have hr := rem_c (kp := 0) hI
        obtain ⟨ρ, hρ⟩ : ∃ ρ, ρ = remS σ (σ 0 3).toNat 0 := ⟨_, rfl⟩
        rw [← hρ] at hr ⊢
        refine g_aload0 dX5_setHole_111 ?_
        refine f_getr (r := 1) rfl (by decide) rfl rfl fl_X5_10 dX5_setHole_112 ?_
        refine f_getr (r := 2) rfl (by decide) rfl rfl fl_X5_161 dX5_setHole_115 ?_
        refine g_iload1 dX5_setHole_118 ?_
        refine f_cS2w (atI rfl (by decide) (by omega) (by show (h : Int) < (7 : Nat); omega)) oY_X5_at oT_X5_at lk_X5_164 rfl dX5_setHole_119 rfl (Or.inl rfl) ?_
        rw [hr.pl _ (by omega) (by rw [ho.hI]; omega)]
        refine g_istore6 dX5_setHole_122 rfl (by decide) ?_
        refine g_aload0 dX5_setHole_124 ?_
        refine f_getr (r := 1) rfl (by decide) rfl rfl fl_X5_10 dX5_setHole_125 ?_
        refine f_getr (r := 2) rfl (by decide) rfl rfl fl_X5_161 dX5_setHole_128 ?_
        refine g_iload1 dX5_setHole_131 ?_
        refine g_iload2 dX5_setHole_132 ?_
        refine f_cS3d (putI rfl (by decide) (by omega) (by show (h : Int) < (7 : Nat); omega)) oY_X5_put oT_X5_put lk_X5_283 rfl dX5_setHole_133 rfl (Or.inl rfl) ?_
        refine g_aload0 dX5_setHole_136 ?_
        refine f_getr (r := 1) rfl (by decide) rfl rfl fl_X5_10 dX5_setHole_137 ?_
        refine f_getr (r := 3) rfl (by decide) rfl rfl fl_X5_168 dX5_setHole_140 ?_
        refine g_iload1 dX5_setHole_143 ?_
        refine g_iload3 dX5_setHole_144 ?_
        refine f_cS3d (putI rfl (by decide) (by omega) (by show (h : Int) < (7 : Nat); omega)) oY_X5_put oT_X5_put lk_X5_283 rfl dX5_setHole_145 rfl (Or.inl rfl) ?_
        refine g_iload6 dX5_setHole_148 ?_
        refine g_iretI rfl dX5_setHole_150 ?_
        exact Fs.rem (kp := 0) hI ⟨by decide, by decide⟩ rfl (fun a ha => by rw [up_n (by omega), up_n (by omega), hρ]) ((hr.pa (by omega)).za (by omega)) (ho.uh (by omega) (by omega) h2) (Int.le_refl _) ⟨fun w => absurd w (by decide), fun w => absurd w (by decide), fun w => absurd w (by decide)⟩
      · refine g_iload2 dX5_setHole_69 ?_
        refine g_aload0 dX5_setHole_70 ?_
        refine f_getr (r := 1) rfl (by decide) rfl rfl fl_X5_10 dX5_setHole_71 ?_
        refine f_getr (r := 2) rfl (by decide) rfl rfl fl_X5_161 dX5_setHole_74 ?_
        refine g_iload1 dX5_setHole_77 ?_
        refine g_iconst dX5_setHole_78 ?_
        refine g_iadd dX5_setHole_79 ?_
        refine f_cS2w (atI rfl (by decide) (by omega) (by show (h : Int) + 1 < (7 : Nat); omega)) oY_X5_at oT_X5_at lk_X5_164 rfl dX5_setHole_80 rfl (Or.inl rfl) ?_
        rw [hc.pl _ (by omega) (by rw [ho.hI]; omega)]
        have b2 := ho.hol ((h : Int) + 1) (by omega) (by rw [ho.hI]; omega)
        refine g_icmp_ge hx ⟨by omega, by omega⟩ (tgt := 90) dX5_setHole_83 rfl (fun h83 => ?_) (fun h83 => ?_)
        · refine g_iconst dX5_setHole_90 ?_
          refine g_istore5 dX5_setHole_91 rfl (by decide) ?_
          refine g_iload4 dX5_setHole_93 ?_
          refine g_if_eq ⟨by decide, by decide⟩ (tgt := 103) dX5_setHole_95 rfl (fun h95 => absurd h95 (by decide)) (fun h95 => ?_)
          refine g_iload5 dX5_setHole_98 ?_
          refine g_if_ne ⟨by decide, by decide⟩ (tgt := 106) dX5_setHole_100 rfl (fun h100 => absurd h100 (by decide)) (fun h100 => ?_)
          refine g_bipush dX5_setHole_103 (by decide) ?_
          refine g_iretI rfl dX5_setHole_105 ?_
          exact absurd hcd (fun w => by omega)
        · refine g_iconst dX5_setHole_86 ?_
          refine g_goto (tgt := 91) dX5_setHole_87 rfl ?_
          refine g_istore5 dX5_setHole_91 rfl (by decide) ?_
          refine g_iload4 dX5_setHole_93 ?_
          refine g_if_eq ⟨by decide, by decide⟩ (tgt := 103) dX5_setHole_95 rfl (fun h95 => absurd h95 (by decide)) (fun h95 => ?_)
          refine g_iload5 dX5_setHole_98 ?_
          refine g_if_ne ⟨by decide, by decide⟩ (tgt := 106) dX5_setHole_100 rfl (fun h100 => ?_) (fun h100 => absurd h100 (by decide))
          refine g_aload0 dX5_setHole_106 ?_
          refine g_iconst dX5_setHole_107 ?_
          refine f_cV1d (rem_s (kp := 0) hI ⟨by decide, by decide⟩) rfl (by decide) rfl oY_X5_remember oI_X5_remember lk_X5_280 rfl dX5_setHole_108 rfl (Or.inl rfl) ?_
          have hr := rem_c (kp := 0) hI
          obtain ⟨ρ, hρ⟩ : ∃ ρ, ρ = remS σ (σ 0 3).toNat 0 := ⟨_, rfl⟩
          rw [← hρ] at hr ⊢
          refine g_aload0 dX5_setHole_111 ?_
          refine f_getr (r := 1) rfl (by decide) rfl rfl fl_X5_10 dX5_setHole_112 ?_
          refine f_getr (r := 2) rfl (by decide) rfl rfl fl_X5_161 dX5_setHole_115 ?_
          refine g_iload1 dX5_setHole_118 ?_
          refine f_cS2w (atI rfl (by decide) (by omega) (by show (h : Int) < (7 : Nat); omega)) oY_X5_at oT_X5_at lk_X5_164 rfl dX5_setHole_119 rfl (Or.inl rfl) ?_
          rw [hr.pl _ (by omega) (by rw [ho.hI]; omega)]
          refine g_istore6 dX5_setHole_122 rfl (by decide) ?_
          refine g_aload0 dX5_setHole_124 ?_
          refine f_getr (r := 1) rfl (by decide) rfl rfl fl_X5_10 dX5_setHole_125 ?_
          refine f_getr (r := 2) rfl (by decide) rfl rfl fl_X5_161 dX5_setHole_128 ?_
          refine g_iload1 dX5_setHole_131 ?_
          refine g_iload2 dX5_setHole_132 ?_
          refine f_cS3d (putI rfl (by decide) (by omega) (by show (h : Int) < (7 : Nat); omega)) oY_X5_put oT_X5_put lk_X5_283 rfl dX5_setHole_133 rfl (Or.inl rfl) ?_
          refine g_aload0 dX5_setHole_136 ?_
          refine f_getr (r := 1) rfl (by decide) rfl rfl fl_X5_10 dX5_setHole_137 ?_
          refine f_getr (r := 3) rfl (by decide) rfl rfl fl_X5_168 dX5_setHole_140 ?_
          refine g_iload1 dX5_setHole_143 ?_
          refine g_iload3 dX5_setHole_144 ?_
          refine f_cS3d (putI rfl (by decide) (by omega) (by show (h : Int) < (7 : Nat); omega)) oY_X5_put oT_X5_put lk_X5_283 rfl dX5_setHole_145 rfl (Or.inl rfl) ?_
          refine g_iload6 dX5_setHole_148 ?_
          refine g_iretI rfl dX5_setHole_150 ?_
          exact Fs.rem (kp := 0) hI ⟨by decide, by decide⟩ rfl (fun a ha => by rw [up_n (by omega), up_n (by omega), hρ]) ((hr.pa (by omega)).za (by omega)) (ho.uh (by omega) (by omega) h2) (Int.le_refl _) ⟨fun w => absurd w (by decide), fun w => absurd w (by decide), fun w => absurd w (by decide)⟩
theorem setHole_no {B : Int} {s : Int → Int} (ho : SOK B s) (hc : CSt σ 1 s) {h : Nat} (hh : h < wH s) {x z : Int} (hx : R32 x) (hz : R32 z) (h1 : 1 ≤ x ∧ x ≤ s 0 - 1) (h2 : 2 ≤ z ∧ z ≤ 15) (hcd : ¬ (((h : Int) = 0 ∨ wPl s ((h : Int) - 1) < x) ∧ ((h : Int) = s 3 - 1 ∨ x < wPl s ((h : Int) + 1)))) : Fw g zX5_setHole [.ref 0, iv (h : Int), iv x, iv z] σ l (iv (-3)) := by
  have hln := ho.len
  have hho := ho.hI
  have h7 := ho.h7
  refine Fn.of [some (.ref 0), some (iv (h : Int)), some (iv x), some (iv z), none, none, none] rfl (by decide) (Nat.le_of_ble_eq_true rfl) rfl ?_
  refine g_aload0 dX5_setHole_0 ?_
  refine g_iload1 dX5_setHole_1 ?_
  refine f_cV1d (needHole_ok ho hc ⟨by omega, by have := ho.h7; omega⟩ ⟨by omega, by rw [ho.hI]; omega⟩) rfl (by decide) rfl oY_X5_needHole oI_X5_needHole lk_X5_157 rfl dX5_setHole_2 rfl (Or.inl rfl) ?_
  refine g_aload0 dX5_setHole_5 ?_
  refine g_iload2 dX5_setHole_6 ?_
  refine g_iconst dX5_setHole_7 ?_
  refine g_aload0 dX5_setHole_8 ?_
  refine f_getr (r := 1) rfl (by decide) rfl rfl fl_X5_10 dX5_setHole_9 ?_
  refine f_geti (J := 0) rfl (by decide) rfl rfl fl_X5_114 dX5_setHole_12 ?_
  rw [hc.f0]
  refine g_iconst dX5_setHole_15 ?_
  refine g_isub dX5_setHole_16 ?_
  refine f_cV3d (needRange_ok hx ⟨by decide, by decide⟩ ⟨by omega, by omega⟩ h1) rfl (by decide) rfl oY_X5_needRange oI_X5_needRange lk_X5_110 rfl dX5_setHole_17 rfl (Or.inl rfl) ?_
  refine g_aload0 dX5_setHole_20 ?_
  refine g_iload3 dX5_setHole_21 ?_
  refine g_iconst dX5_setHole_22 ?_
  refine g_bipush dX5_setHole_23 (by decide) ?_
  refine f_cV3d (needRange_ok hz ⟨by decide, by decide⟩ ⟨by decide, by decide⟩ h2) rfl (by decide) rfl oY_X5_needRange oI_X5_needRange lk_X5_110 rfl dX5_setHole_25 rfl (Or.inl rfl) ?_
  refine g_iload1 dX5_setHole_28 ?_
  refine g_if_eq ⟨by omega, by omega⟩ (tgt := 49) dX5_setHole_29 rfl (fun h29 => ?_) (fun h29 => ?_)
  · refine g_iconst dX5_setHole_49 ?_
    refine g_goto (tgt := 54) dX5_setHole_50 rfl ?_
    refine g_istore4 dX5_setHole_54 rfl (by decide) ?_
    refine g_iload1 dX5_setHole_56 ?_
    refine g_aload0 dX5_setHole_57 ?_
    refine f_getr (r := 1) rfl (by decide) rfl rfl fl_X5_10 dX5_setHole_58 ?_
    refine f_geti (J := 8) rfl (by decide) rfl rfl fl_X5_123 dX5_setHole_61 ?_
    rw [hc.f8]
    refine g_iconst dX5_setHole_64 ?_
    refine g_isub dX5_setHole_65 ?_
    refine g_icmp_eq ⟨by omega, by omega⟩ ⟨by omega, by omega⟩ (tgt := 86) dX5_setHole_66 rfl (fun h66 => ?_) (fun h66 => ?_)
    · refine g_iconst dX5_setHole_86 ?_
      refine g_goto (tgt := 91) dX5_setHole_87 rfl ?_
      refine g_istore5 dX5_setHole_91 rfl (by decide) ?_
      refine g_iload4 dX5_setHole_93 ?_
      refine g_if_eq ⟨by decide, by decide⟩ (tgt := 103) dX5_setHole_95 rfl (fun h95 => absurd h95 (by decide)) (fun h95 => ?_)
      refine g_iload5 dX5_setHole_98 ?_
      refine g_if_ne ⟨by decide, by decide⟩ (tgt := 106) dX5_setHole_100 rfl (fun h100 => ?_) (fun h100 => absurd h100 (by decide))
      exact absurd ⟨by omega, by omega⟩ hcd
    · refine g_iload2 dX5_setHole_69 ?_
      refine g_aload0 dX5_setHole_70 ?_
      refine f_getr (r := 1) rfl (by decide) rfl rfl fl_X5_10 dX5_setHole_71 ?_
      refine f_getr (r := 2) rfl (by decide) rfl rfl fl_X5_161 dX5_setHole_74 ?_
      refine g_iload1 dX5_setHole_77 ?_
      refine g_iconst dX5_setHole_78 ?_
      refine g_iadd dX5_setHole_79 ?_
      refine f_cS2w (atI rfl (by decide) (by omega) (by show (h : Int) + 1 < (7 : Nat); omega)) oY_X5_at oT_X5_at lk_X5_164 rfl dX5_setHole_80 rfl (Or.inl rfl) ?_
      rw [hc.pl _ (by omega) (by rw [ho.hI]; omega)]
      have b2 := ho.hol ((h : Int) + 1) (by omega) (by rw [ho.hI]; omega)
      refine g_icmp_ge hx ⟨by omega, by omega⟩ (tgt := 90) dX5_setHole_83 rfl (fun h83 => ?_) (fun h83 => ?_)
      · refine g_iconst dX5_setHole_90 ?_
        refine g_istore5 dX5_setHole_91 rfl (by decide) ?_
        refine g_iload4 dX5_setHole_93 ?_
        refine g_if_eq ⟨by decide, by decide⟩ (tgt := 103) dX5_setHole_95 rfl (fun h95 => absurd h95 (by decide)) (fun h95 => ?_)
        refine g_iload5 dX5_setHole_98 ?_
        refine g_if_ne ⟨by decide, by decide⟩ (tgt := 106) dX5_setHole_100 rfl (fun h100 => absurd h100 (by decide)) (fun h100 => ?_)
        refine g_bipush dX5_setHole_103 (by decide) ?_
        refine g_iretI rfl dX5_setHole_105 ?_
        exact Fw.ret rfl
      · refine g_iconst dX5_setHole_86 ?_
        refine g_goto (tgt := 91) dX5_setHole_87 rfl ?_
        refine g_istore5 dX5_setHole_91 rfl (by decide) ?_
        refine g_iload4 dX5_setHole_93 ?_
        refine g_if_eq ⟨by decide, by decide⟩ (tgt := 103) dX5_setHole_95 rfl (fun h95 => absurd h95 (by decide)) (fun h95 => ?_)
        refine g_iload5 dX5_setHole_98 ?_
        refine g_if_ne ⟨by decide, by decide⟩ (tgt := 106) dX5_setHole_100 rfl (fun h100 => ?_) (fun h100 => absurd h100 (by decide))
        exact absurd ⟨by omega, by omega⟩ hcd
  · refine g_iload2 dX5_setHole_32 ?_
    refine g_aload0 dX5_setHole_33 ?_
    refine f_getr (r := 1) rfl (by decide) rfl rfl fl_X5_10 dX5_setHole_34 ?_
    refine f_getr (r := 2) rfl (by decide) rfl rfl fl_X5_161 dX5_setHole_37 ?_
    refine g_iload1 dX5_setHole_40 ?_
    refine g_iconst dX5_setHole_41 ?_
    refine g_isub dX5_setHole_42 ?_
    refine f_cS2w (atI rfl (by decide) (by omega) (by show (h : Int) - 1 < (7 : Nat); omega)) oY_X5_at oT_X5_at lk_X5_164 rfl dX5_setHole_43 rfl (Or.inl rfl) ?_
    rw [hc.pl _ (by omega) (by rw [ho.hI]; omega)]
    have b1 := ho.hol ((h : Int) - 1) (by omega) (by rw [ho.hI]; omega)
    refine g_icmp_le hx ⟨by omega, by omega⟩ (tgt := 53) dX5_setHole_46 rfl (fun h46 => ?_) (fun h46 => ?_)
    · refine g_iconst dX5_setHole_53 ?_
      refine g_istore4 dX5_setHole_54 rfl (by decide) ?_
      refine g_iload1 dX5_setHole_56 ?_
      refine g_aload0 dX5_setHole_57 ?_
      refine f_getr (r := 1) rfl (by decide) rfl rfl fl_X5_10 dX5_setHole_58 ?_
      refine f_geti (J := 8) rfl (by decide) rfl rfl fl_X5_123 dX5_setHole_61 ?_
      rw [hc.f8]
      refine g_iconst dX5_setHole_64 ?_
      refine g_isub dX5_setHole_65 ?_
      refine g_icmp_eq ⟨by omega, by omega⟩ ⟨by omega, by omega⟩ (tgt := 86) dX5_setHole_66 rfl (fun h66 => ?_) (fun h66 => ?_)
      · refine g_iconst dX5_setHole_86 ?_
        refine g_goto (tgt := 91) dX5_setHole_87 rfl ?_
        refine g_istore5 dX5_setHole_91 rfl (by decide) ?_
        refine g_iload4 dX5_setHole_93 ?_
        refine g_if_eq ⟨by decide, by decide⟩ (tgt := 103) dX5_setHole_95 rfl (fun h95 => ?_) (fun h95 => absurd h95 (by decide))
        refine g_bipush dX5_setHole_103 (by decide) ?_
        refine g_iretI rfl dX5_setHole_105 ?_
        exact Fw.ret rfl
      · refine g_iload2 dX5_setHole_69 ?_
        refine g_aload0 dX5_setHole_70 ?_
        refine f_getr (r := 1) rfl (by decide) rfl rfl fl_X5_10 dX5_setHole_71 ?_
        refine f_getr (r := 2) rfl (by decide) rfl rfl fl_X5_161 dX5_setHole_74 ?_
        refine g_iload1 dX5_setHole_77 ?_
        refine g_iconst dX5_setHole_78 ?_
        refine g_iadd dX5_setHole_79 ?_
        refine f_cS2w (atI rfl (by decide) (by omega) (by show (h : Int) + 1 < (7 : Nat); omega)) oY_X5_at oT_X5_at lk_X5_164 rfl dX5_setHole_80 rfl (Or.inl rfl) ?_
        rw [hc.pl _ (by omega) (by rw [ho.hI]; omega)]
        have b2 := ho.hol ((h : Int) + 1) (by omega) (by rw [ho.hI]; omega)
        refine g_icmp_ge hx ⟨by omega, by omega⟩ (tgt := 90) dX5_setHole_83 rfl (fun h83 => ?_) (fun h83 => ?_)
        · refine g_iconst dX5_setHole_90 ?_
          refine g_istore5 dX5_setHole_91 rfl (by decide) ?_
          refine g_iload4 dX5_setHole_93 ?_
          refine g_if_eq ⟨by decide, by decide⟩ (tgt := 103) dX5_setHole_95 rfl (fun h95 => ?_) (fun h95 => absurd h95 (by decide))
          refine g_bipush dX5_setHole_103 (by decide) ?_
          refine g_iretI rfl dX5_setHole_105 ?_
          exact Fw.ret rfl
        · refine g_iconst dX5_setHole_86 ?_
          refine g_goto (tgt := 91) dX5_setHole_87 rfl ?_
          refine g_istore5 dX5_setHole_91 rfl (by decide) ?_
          refine g_iload4 dX5_setHole_93 ?_
          refine g_if_eq ⟨by decide, by decide⟩ (tgt := 103) dX5_setHole_95 rfl (fun h95 => ?_) (fun h95 => absurd h95 (by decide))
          refine g_bipush dX5_setHole_103 (by decide) ?_
          refine g_iretI rfl dX5_setHole_105 ?_
          exact Fw.ret rfl
    · refine g_iconst dX5_setHole_49 ?_
      refine g_goto (tgt := 54) dX5_setHole_50 rfl ?_
      refine g_istore4 dX5_setHole_54 rfl (by decide) ?_
      refine g_iload1 dX5_setHole_56 ?_
      refine g_aload0 dX5_setHole_57 ?_
      refine f_getr (r := 1) rfl (by decide) rfl rfl fl_X5_10 dX5_setHole_58 ?_
      refine f_geti (J := 8) rfl (by decide) rfl rfl fl_X5_123 dX5_setHole_61 ?_
      rw [hc.f8]
      refine g_iconst dX5_setHole_64 ?_
      refine g_isub dX5_setHole_65 ?_
      refine g_icmp_eq ⟨by omega, by omega⟩ ⟨by omega, by omega⟩ (tgt := 86) dX5_setHole_66 rfl (fun h66 => ?_) (fun h66 => ?_)
      · refine g_iconst dX5_setHole_86 ?_
        refine g_goto (tgt := 91) dX5_setHole_87 rfl ?_
        refine g_istore5 dX5_setHole_91 rfl (by decide) ?_
        refine g_iload4 dX5_setHole_93 ?_
        refine g_if_eq ⟨by decide, by decide⟩ (tgt := 103) dX5_setHole_95 rfl (fun h95 => absurd h95 (by decide)) (fun h95 => ?_)
        refine g_iload5 dX5_setHole_98 ?_
        refine g_if_ne ⟨by decide, by decide⟩ (tgt := 106) dX5_setHole_100 rfl (fun h100 => ?_) (fun h100 => absurd h100 (by decide))
        exact absurd ⟨by omega, by omega⟩ hcd
      · refine g_iload2 dX5_setHole_69 ?_
        refine g_aload0 dX5_setHole_70 ?_
        refine f_getr (r := 1) rfl (by decide) rfl rfl fl_X5_10 dX5_setHole_71 ?_
        refine f_getr (r := 2) rfl (by decide) rfl rfl fl_X5_161 dX5_setHole_74 ?_
        refine g_iload1 dX5_setHole_77 ?_
        refine g_iconst dX5_setHole_78 ?_
        refine g_iadd dX5_setHole_79 ?_
        refine f_cS2w (atI rfl (by decide) (by omega) (by show (h : Int) + 1 < (7 : Nat); omega)) oY_X5_at oT_X5_at lk_X5_164 rfl dX5_setHole_80 rfl (Or.inl rfl) ?_
        rw [hc.pl _ (by omega) (by rw [ho.hI]; omega)]
        have b2 := ho.hol ((h : Int) + 1) (by omega) (by rw [ho.hI]; omega)
        refine g_icmp_ge hx ⟨by omega, by omega⟩ (tgt := 90) dX5_setHole_83 rfl (fun h83 => ?_) (fun h83 => ?_)
        · refine g_iconst dX5_setHole_90 ?_
          refine g_istore5 dX5_setHole_91 rfl (by decide) ?_
          refine g_iload4 dX5_setHole_93 ?_
          refine g_if_eq ⟨by decide, by decide⟩ (tgt := 103) dX5_setHole_95 rfl (fun h95 => absurd h95 (by decide)) (fun h95 => ?_)
          refine g_iload5 dX5_setHole_98 ?_
          refine g_if_ne ⟨by decide, by decide⟩ (tgt := 106) dX5_setHole_100 rfl (fun h100 => absurd h100 (by decide)) (fun h100 => ?_)
          refine g_bipush dX5_setHole_103 (by decide) ?_
          refine g_iretI rfl dX5_setHole_105 ?_
          exact Fw.ret rfl
        · refine g_iconst dX5_setHole_86 ?_
          refine g_goto (tgt := 91) dX5_setHole_87 rfl ?_
          refine g_istore5 dX5_setHole_91 rfl (by decide) ?_
          refine g_iload4 dX5_setHole_93 ?_
          refine g_if_eq ⟨by decide, by decide⟩ (tgt := 103) dX5_setHole_95 rfl (fun h95 => absurd h95 (by decide)) (fun h95 => ?_)
          refine g_iload5 dX5_setHole_98 ?_
          refine g_if_ne ⟨by decide, by decide⟩ (tgt := 106) dX5_setHole_100 rfl (fun h100 => ?_) (fun h100 => absurd h100 (by decide))
          exact absurd ⟨by omega, by omega⟩ hcd
theorem setHole_bad1 {B : Int} {s : Int → Int} (ho : SOK B s) (hc : CSt σ 1 s) {h x z : Int} (hx : R32 h) (hb : ¬ (0 ≤ h ∧ h < s 3)) : Ft g zX5_setHole [.ref 0, iv h, iv x, iv z] σ l 1 := by
  refine Fn.of [some (.ref 0), some (iv h), some (iv x), some (iv z), none, none, none] rfl (by decide) (Nat.le_of_ble_eq_true rfl) rfl ?_
  refine g_aload0 dX5_setHole_0 ?_
  refine g_iload1 dX5_setHole_1 ?_
  refine f_cV1t (needHole_bad ho hc hx hb) rfl (by decide) rfl oY_X5_needHole oI_X5_needHole lk_X5_157 rfl dX5_setHole_2 (by omega) (by omega) rfl (Or.inl rfl) rfl ?_
  exact Ft.ret
theorem setHole_bad2 {B : Int} {s : Int → Int} (ho : SOK B s) (hc : CSt σ 1 s) {h x z : Int} (hh : R32 h) (hx : R32 x) (hz : R32 z) (h0 : 0 ≤ h ∧ h < s 3) (hb : ¬ ((1 ≤ x ∧ x ≤ s 0 - 1) ∧ 2 ≤ z ∧ z ≤ 15)) : Ft g zX5_setHole [.ref 0, iv h, iv x, iv z] σ l 0 := by
  have hln := ho.len
  refine Fn.of [some (.ref 0), some (iv h), some (iv x), some (iv z), none, none, none] rfl (by decide) (Nat.le_of_ble_eq_true rfl) rfl ?_
  by_cases h1 : 1 ≤ x ∧ x ≤ s 0 - 1
  · refine g_aload0 dX5_setHole_0 ?_
    refine g_iload1 dX5_setHole_1 ?_
    refine f_cV1d (needHole_ok ho hc hh h0) rfl (by decide) rfl oY_X5_needHole oI_X5_needHole lk_X5_157 rfl dX5_setHole_2 rfl (Or.inl rfl) ?_
    refine g_aload0 dX5_setHole_5 ?_
    refine g_iload2 dX5_setHole_6 ?_
    refine g_iconst dX5_setHole_7 ?_
    refine g_aload0 dX5_setHole_8 ?_
    refine f_getr (r := 1) rfl (by decide) rfl rfl fl_X5_10 dX5_setHole_9 ?_
    refine f_geti (J := 0) rfl (by decide) rfl rfl fl_X5_114 dX5_setHole_12 ?_
    rw [hc.f0]
    refine g_iconst dX5_setHole_15 ?_
    refine g_isub dX5_setHole_16 ?_
    refine f_cV3d (needRange_ok hx ⟨by decide, by decide⟩ ⟨by omega, by omega⟩ h1) rfl (by decide) rfl oY_X5_needRange oI_X5_needRange lk_X5_110 rfl dX5_setHole_17 rfl (Or.inl rfl) ?_
    refine g_aload0 dX5_setHole_20 ?_
    refine g_iload3 dX5_setHole_21 ?_
    refine g_iconst dX5_setHole_22 ?_
    refine g_bipush dX5_setHole_23 (by decide) ?_
    refine f_cV3t (needRange_bad hz ⟨by decide, by decide⟩ ⟨by decide, by decide⟩ (fun w => hb ⟨h1, w⟩)) rfl (by decide) rfl oY_X5_needRange oI_X5_needRange lk_X5_110 rfl dX5_setHole_25 (by omega) (by omega) rfl (Or.inl rfl) rfl ?_
    exact Ft.ret
  · refine g_aload0 dX5_setHole_0 ?_
    refine g_iload1 dX5_setHole_1 ?_
    refine f_cV1d (needHole_ok ho hc hh h0) rfl (by decide) rfl oY_X5_needHole oI_X5_needHole lk_X5_157 rfl dX5_setHole_2 rfl (Or.inl rfl) ?_
    refine g_aload0 dX5_setHole_5 ?_
    refine g_iload2 dX5_setHole_6 ?_
    refine g_iconst dX5_setHole_7 ?_
    refine g_aload0 dX5_setHole_8 ?_
    refine f_getr (r := 1) rfl (by decide) rfl rfl fl_X5_10 dX5_setHole_9 ?_
    refine f_geti (J := 0) rfl (by decide) rfl rfl fl_X5_114 dX5_setHole_12 ?_
    rw [hc.f0]
    refine g_iconst dX5_setHole_15 ?_
    refine g_isub dX5_setHole_16 ?_
    refine f_cV3t (needRange_bad hx ⟨by decide, by decide⟩ ⟨by omega, by omega⟩ h1) rfl (by decide) rfl oY_X5_needRange oI_X5_needRange lk_X5_110 rfl dX5_setHole_17 (by omega) (by omega) rfl (Or.inl rfl) rfl ?_
    exact Ft.ret
end C55
