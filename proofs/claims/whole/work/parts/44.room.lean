/-! Room: what the growing rows may still cost -/
section C44
variable {g : gT} {σ : sT} {l : Nat → Nat}
def pS (u w : Nat → Nat) (C : Nat) : Nat → Nat
  | 0 => 0
  | j + 1 => pS u w C j + (if C < u j then w j else 0)
theorem pS_mono {u w : Nat → Nat} {C D : Nat} (h : C ≤ D) (J : Nat) : pS u w D J ≤ pS u w C J := by
  induction J with
  | zero => exact Nat.le_refl _
  | succ j ih =>
    unfold pS
    have a1 : (if D < u j then w j else 0) ≤ if C < u j then w j else 0 := by
      by_cases e : D < u j
      · rw [if_pos e, if_pos (by omega)]
        exact Nat.le_refl _
      · rw [if_neg e]
        exact Nat.zero_le _
    omega
theorem pS_grow {u w : Nat → Nat} {C h : Nat} (hC : C < u h) (J : Nat) (hJ : h < J) : pS u w (max C (u h)) J + w h ≤ pS u w C J := by
  induction J with
  | zero => omega
  | succ j ih =>
    unfold pS
    by_cases e : h = j
    · subst e
      have a1 := pS_mono (u := u) (w := w) (Nat.le_max_left C (u h)) h
      rw [if_neg (by omega), if_pos hC]
      omega
    · have a1 := ih (by omega)
      have a2 : (if max C (u h) < u j then w j else 0) ≤ if C < u j then w j else 0 := by
        by_cases e2 : max C (u h) < u j
        · rw [if_pos e2, if_pos (by omega)]
          exact Nat.le_refl _
        · rw [if_neg e2]
          exact Nat.zero_le _
      omega
theorem pS_if {u w : Nat → Nat} {C h : Nat} (J : Nat) (hJ : h < J) : pS u w (max C (u h)) J + (if C < u h then w h else 0) ≤ pS u w C J := by
  by_cases e : C < u h
  · rw [if_pos e]; exact pS_grow e J hJ
  · rw [if_neg e, Nat.add_zero]; exact pS_mono (Nat.le_max_left _ _) J
def u1 (j : Nat) : Nat := 3 ^ j
def u2 (j : Nat) : Nat := 2 * 3 ^ j
/-- cells and slots that the rows' growing may still cost -/
def pcL (l : Nat → Nat) : Nat := pS u1 (fun _ => 5) (ln l 18) 8 + pS u2 (fun _ => 3) (ln l 29) 8 + pS u2 (fun _ => 3) (ln l 37) 8 + (349920 - ln l 44) / 2 + pS u2 (fun _ => 1) (ln l 45) 8 + (349920 - ln l 50) / 2 + pS u2 (fun _ => 1) (ln l 51) 8
def psL (l : Nat → Nat) : Nat := pS u1 (fun j => 5 * 3 ^ j) (ln l 18) 8 + pS u2 (fun j => 3 * (2 * 3 ^ j)) (ln l 29) 8 + pS u2 (fun j => 3 * (2 * 3 ^ j)) (ln l 37) 8 + 2 * (349920 - ln l 44) + pS u2 (fun j => 2 * 3 ^ j) (ln l 45) 8 + 2 * (349920 - ln l 50) + pS u2 (fun j => 2 * 3 ^ j) (ln l 51) 8
def Gr (l L : Nat → Nat) (k n : Nat) : Prop := pcL L + k ≤ pcL l ∧ psL L + n ≤ psL l
theorem Gr.refl (l : Nat → Nat) : Gr l l 0 0 := ⟨Nat.le_refl _, Nat.le_refl _⟩
theorem Gr.trans {l L M : Nat → Nat} {k n k' n' : Nat} (h1 : Gr l L k n) (h2 : Gr L M k' n') : Gr l M (k + k') (n + n') := ⟨by have := h1.1; have := h2.1; omega, by have := h1.2; have := h2.2; omega⟩
theorem LE2.refl (l : Nat → Nat) : LE2 l l := fun _ => rfl
theorem LE2.trans {l L M : Nat → Nat} (h1 : LE2 l L) (h2 : LE2 L M) : LE2 l M := fun a => (h2 a).trans (h1 a)
theorem LE2.symm {l L : Nat → Nat} (h1 : LE2 l L) : LE2 L l := fun a => (h1 a).symm
theorem pcL_eq {l L : Nat → Nat} (h : LE2 l L) : pcL L = pcL l ∧ psL L = psL l := by
  unfold pcL psL
  rw [h 18, h 29, h 37, h 44, h 45, h 50, h 51]
  exact ⟨rfl, rfl⟩
def gr1 (K : Nat) (l : Nat → Nat) : Nat → Nat := fun a => if 18 ≤ a ∧ a ≤ 22 then max (ln l a) K else l a
def gr2 (o N : Nat) (l : Nat → Nat) : Nat → Nat := fun a => if o + 5 ≤ a ∧ a ≤ o + 7 then max (ln l a) N else l a
def gr3 (w : Nat) (u : Bool) (len N : Nat) (l : Nat → Nat) : Nat → Nat := fun a => if a = w + 4 then (if ln l a < len then max len (2 * ln l a) else ln l a) else if a = w + 5 then (if u = true then max (ln l a) N else ln l a) else l a
theorem ln_own {l : Nat → Nat} {a : Nat} (h : ownr a ≠ none) : ln l a = min (l a) 400000 := if_neg h
theorem ln_gr1 {K : Nat} (hK : K ≤ 400000) (a : Nat) : ln (gr1 K l) a = if 18 ≤ a ∧ a ≤ 22 then max (ln l a) K else ln l a := by
  by_cases h : 18 ≤ a ∧ a ≤ 22
  · rw [if_pos h]
    have h1 : ownr a ≠ none := by
      have h1 : a = 18 ∨ a = 19 ∨ a = 20 ∨ a = 21 ∨ a = 22 := by omega
      rcases h1 with rfl | rfl | rfl | rfl | rfl <;> decide
    have h2 := ln_le l a
    rw [ln_own h1]
    unfold gr1
    rw [if_pos h]
    omega
  · rw [if_neg h]
    unfold ln gr1
    rw [if_neg h]
theorem ln_gr2 {o N : Nat} (hs : isCh o) (hK : N ≤ 400000) (a : Nat) : ln (gr2 o N l) a = if o + 5 ≤ a ∧ a ≤ o + 7 then max (ln l a) N else ln l a := by
  by_cases h : o + 5 ≤ a ∧ a ≤ o + 7
  · rw [if_pos h]
    have h1 : ownr a ≠ none := by
      have h1 : a = o + 5 ∨ a = o + 6 ∨ a = o + 7 := by omega
      rcases hs.2.1 with rfl | rfl <;> rcases h1 with rfl | rfl | rfl <;> decide
    have h2 := ln_le l a
    rw [ln_own h1]
    unfold gr2
    rw [if_pos h]
    omega
  · rw [if_neg h]
    unfold ln gr2
    rw [if_neg h]
theorem ln_gr3 {w len N : Nat} {u : Bool} (hw : isWy w) (hl : len ≤ 174960) (hA : ln l (w + 4) ≤ 349920) (hN : N ≤ 400000) (a : Nat) : ln (gr3 w u len N l) a = if a = w + 4 then (if ln l a < len then max len (2 * ln l a) else ln l a) else if a = w + 5 then (if u = true then max (ln l a) N else ln l a) else ln l a := by
  by_cases h : a = w + 4
  · subst h
    rw [if_pos rfl]
    have h1 : ownr (w + 4) ≠ none := by rcases hw.2.1 with rfl | rfl <;> decide
    have h2 := ln_le l (w + 4)
    rw [ln_own h1]
    unfold gr3
    rw [if_pos rfl]
    split <;> omega
  · rw [if_neg h]
    by_cases h3 : a = w + 5
    · subst h3
      rw [if_pos rfl]
      have h1 : ownr (w + 5) ≠ none := by rcases hw.2.1 with rfl | rfl <;> decide
      have h2 := ln_le l (w + 5)
      rw [ln_own h1]
      unfold gr3
      rw [if_neg h, if_pos rfl]
      split <;> omega
    · rw [if_neg h3]
      unfold ln gr3
      rw [if_neg h, if_neg h3]
theorem Gr1 {h : Nat} (hh : h ≤ 7) : Gr l (gr1 (3 ^ h) l) (if ln l 18 < 3 ^ h then 5 else 0) (if ln l 18 < 3 ^ h then 5 * 3 ^ h else 0) := by
  have hp := p3_le hh
  have e := ln_gr1 (l := l) (K := 3 ^ h) (by omega)
  have e18 := e 18
  rw [if_pos ⟨by decide, by decide⟩] at e18
  have e29 := e 29; have e37 := e 37; have e44 := e 44; have e45 := e 45; have e50 := e 50; have e51 := e 51
  rw [if_neg (by omega)] at e29 e37 e44 e45 e50 e51
  have a1 := pS_if (u := u1) (w := fun _ => 5) (C := ln l 18) (h := h) 8 (by omega)
  have a2 := pS_if (u := u1) (w := fun j => 5 * 3 ^ j) (C := ln l 18) (h := h) 8 (by omega)
  rw [show u1 h = 3 ^ h from rfl] at a1 a2
  unfold Gr pcL psL
  rw [e18, e29, e37, e44, e45, e50, e51]
  exact ⟨by omega, by omega⟩
theorem Gr2 {o h : Nat} (hs : isCh o) (hh : h ≤ 7) : Gr l (gr2 o (2 * 3 ^ h) l) (if ln l (o + 5) < 2 * 3 ^ h then 3 else 0) (if ln l (o + 5) < 2 * 3 ^ h then 3 * (2 * 3 ^ h) else 0) := by
  have hp := p3_le hh
  have e := ln_gr2 (l := l) (N := 2 * 3 ^ h) hs (by omega)
  have e18 := e 18; have e29 := e 29; have e37 := e 37; have e44 := e 44; have e45 := e 45; have e50 := e 50; have e51 := e 51
  have a1 := pS_if (u := u2) (w := fun _ => 3) (C := ln l (o + 5)) (h := h) 8 (by omega)
  have a2 := pS_if (u := u2) (w := fun j => 3 * (2 * 3 ^ j)) (C := ln l (o + 5)) (h := h) 8 (by omega)
  rw [show u2 h = 2 * 3 ^ h from rfl] at a1 a2
  rcases hs.2.1 with rfl | rfl
  · rw [show (24 + 5 : Nat) = 29 from rfl] at a1 a2 ⊢
    rw [if_pos ⟨by decide, by decide⟩] at e29
    rw [if_neg (by omega)] at e18 e37 e44 e45 e50 e51
    unfold Gr pcL psL
    rw [e18, e29, e37, e44, e45, e50, e51]
    exact ⟨by omega, by omega⟩
  · rw [show (32 + 5 : Nat) = 37 from rfl] at a1 a2 ⊢
    rw [if_pos ⟨by decide, by decide⟩] at e37
    rw [if_neg (by omega)] at e18 e29 e44 e45 e50 e51
    unfold Gr pcL psL
    rw [e18, e29, e37, e44, e45, e50, e51]
    exact ⟨by omega, by omega⟩
theorem Gr3 {w h len : Nat} {u : Bool} (hw : isWy w) (hh : h ≤ 7) (hl : len ≤ 174960) (hA : 2 ≤ ln l (w + 4) ∧ ln l (w + 4) ≤ 349920) : Gr l (gr3 w u len (2 * 3 ^ h) l) ((if ln l (w + 4) < len then 1 else 0) + (if u = true ∧ ln l (w + 5) < 2 * 3 ^ h then 1 else 0)) ((if ln l (w + 4) < len then max len (2 * ln l (w + 4)) else 0) + (if u = true ∧ ln l (w + 5) < 2 * 3 ^ h then 2 * 3 ^ h else 0)) := by
  have hp := p3_le hh
  have e := ln_gr3 (l := l) (N := 2 * 3 ^ h) (u := u) hw hl hA.2 (by omega)
  have e18 := e 18; have e29 := e 29; have e37 := e 37; have e44 := e 44; have e45 := e 45; have e50 := e 50; have e51 := e 51
  have a1 := pS_if (u := u2) (w := fun _ => 1) (C := ln l (w + 5)) (h := h) 8 (by omega)
  have a2 := pS_if (u := u2) (w := fun j => 2 * 3 ^ j) (C := ln l (w + 5)) (h := h) 8 (by omega)
  rw [show u2 h = 2 * 3 ^ h from rfl] at a1 a2
  have b1 : (if u = true ∧ ln l (w + 5) < 2 * 3 ^ h then 1 else 0) + pS u2 (fun _ => 1) (if u = true then max (ln l (w + 5)) (2 * 3 ^ h) else ln l (w + 5)) 8 ≤ pS u2 (fun _ => 1) (ln l (w + 5)) 8 := by
    cases u
    · simp
    · simp only [true_and, if_true]
      omega
  have b2 : (if u = true ∧ ln l (w + 5) < 2 * 3 ^ h then 2 * 3 ^ h else 0) + pS u2 (fun j => 2 * 3 ^ j) (if u = true then max (ln l (w + 5)) (2 * 3 ^ h) else ln l (w + 5)) 8 ≤ pS u2 (fun j => 2 * 3 ^ j) (ln l (w + 5)) 8 := by
    cases u
    · simp
    · simp only [true_and, if_true]
      omega
  have b3 : (if ln l (w + 4) < len then 1 else 0) + (349920 - (if ln l (w + 4) < len then max len (2 * ln l (w + 4)) else ln l (w + 4))) / 2 ≤ (349920 - ln l (w + 4)) / 2 := by
    split <;> omega
  have b4 : (if ln l (w + 4) < len then max len (2 * ln l (w + 4)) else 0) + 2 * (349920 - (if ln l (w + 4) < len then max len (2 * ln l (w + 4)) else ln l (w + 4))) ≤ 2 * (349920 - ln l (w + 4)) := by
    split <;> omega
  rcases hw.2.1 with rfl | rfl
  · rw [show (40 + 5 : Nat) = 45 from rfl] at b1 b2
    rw [show (40 + 4 : Nat) = 44 from rfl] at b3 b4
    rw [show (40 + 4 : Nat) = 44 from rfl, show (40 + 5 : Nat) = 45 from rfl]
    rw [if_pos rfl] at e44
    rw [if_neg (by omega), if_pos rfl] at e45
    rw [if_neg (by omega), if_neg (by omega)] at e18 e29 e37 e50 e51
    unfold Gr pcL psL
    rw [e18, e29, e37, e44, e45, e50, e51]
    exact ⟨by omega, by omega⟩
  · rw [show (46 + 5 : Nat) = 51 from rfl] at b1 b2
    rw [show (46 + 4 : Nat) = 50 from rfl] at b3 b4
    rw [show (46 + 4 : Nat) = 50 from rfl, show (46 + 5 : Nat) = 51 from rfl]
    rw [if_pos rfl] at e50
    rw [if_neg (by omega), if_pos rfl] at e51
    rw [if_neg (by omega), if_neg (by omega)] at e18 e29 e37 e44 e45
    unfold Gr pcL psL
    rw [e18, e29, e37, e44, e45, e50, e51]
    exact ⟨by omega, by omega⟩
end C44
