/-! The state as a row of numbers (as the model lays it), what is reckoned from it, what the class holds of it -/
section C43
variable {g : gT} {σ : sT} {l : Nat → Nat}
def wPl (s : Int → Int) : Int → Int := fun k => s (13 + 2 * (k.toNat : Int))
def wSz (s : Int → Int) : Int → Int := fun k => s (14 + 2 * (k.toNat : Int))
def wTu (s : Int → Int) : Int → Int := fun k => s (27 + (k.toNat : Int))
abbrev wH (s : Int → Int) : Nat := (s 3).toNat
abbrev wN (s : Int → Int) : Nat := (s 9).toNat
def SOK (B : Int) (s : Int → Int) : Prop := (200 ≤ s 0 ∧ s 0 ≤ 600) ∧ (5 ≤ s 1 ∧ s 1 ≤ 20) ∧ (5 ≤ s 2 ∧ s 2 ≤ 49) ∧ (0 ≤ s 3 ∧ s 3 ≤ 7) ∧ (0 ≤ s 4 ∧ s 4 ≤ 2) ∧ (0 ≤ s 5 ∧ s 5 ≤ 3) ∧ (1 ≤ s 6 ∧ s 6 ≤ 9) ∧ (1 ≤ s 7 ∧ s 7 ≤ 9) ∧ (0 ≤ s 8 ∧ s 8 ≤ 9) ∧ (0 ≤ s 9 ∧ s 9 ≤ 40) ∧ (0 ≤ s 10 ∧ s 10 < 2 * ((3 ^ wH s : Nat) : Int)) ∧ (0 ≤ s 11 ∧ s 11 ≤ B) ∧ (0 ≤ s 12 ∧ (s 12 = 0 ∨ s 12 < s 9)) ∧ (∀ k : Int, 0 ≤ k → k < s 3 → 1 ≤ wPl s k ∧ wPl s k ≤ 600 ∧ 2 ≤ wSz s k ∧ wSz s k ≤ 15) ∧ (∀ k : Int, 0 ≤ k → k < s 9 → -1 ≤ wTu s k ∧ wTu s k ≤ 24)
theorem SOK.len {B : Int} {s : Int → Int} (h : SOK B s) : 200 ≤ s 0 ∧ s 0 ≤ 600 := h.1
theorem SOK.bore {B : Int} {s : Int → Int} (h : SOK B s) : 5 ≤ s 1 ∧ s 1 ≤ 20 := h.2.1
theorem SOK.tol {B : Int} {s : Int → Int} (h : SOK B s) : 5 ≤ s 2 ∧ s 2 ≤ 49 := h.2.2.1
theorem SOK.holes {B : Int} {s : Int → Int} (h : SOK B s) : 0 ≤ s 3 ∧ s 3 ≤ 7 := h.2.2.2.1
theorem SOK.halves {B : Int} {s : Int → Int} (h : SOK B s) : 0 ≤ s 4 ∧ s 4 ≤ 2 := h.2.2.2.2.1
theorem SOK.crosses {B : Int} {s : Int → Int} (h : SOK B s) : 0 ≤ s 5 ∧ s 5 ≤ 3 := h.2.2.2.2.2.1
theorem SOK.move {B : Int} {s : Int → Int} (h : SOK B s) : 1 ≤ s 6 ∧ s 6 ≤ 9 := h.2.2.2.2.2.2.1
theorem SOK.half {B : Int} {s : Int → Int} (h : SOK B s) : 1 ≤ s 7 ∧ s 7 ≤ 9 := h.2.2.2.2.2.2.2.1
theorem SOK.breath {B : Int} {s : Int → Int} (h : SOK B s) : 0 ≤ s 8 ∧ s 8 ≤ 9 := h.2.2.2.2.2.2.2.2.1
theorem SOK.notes {B : Int} {s : Int → Int} (h : SOK B s) : 0 ≤ s 9 ∧ s 9 ≤ 40 := h.2.2.2.2.2.2.2.2.2.1
theorem SOK.play {B : Int} {s : Int → Int} (h : SOK B s) : 0 ≤ s 10 ∧ s 10 < 2 * ((3 ^ wH s : Nat) : Int) := h.2.2.2.2.2.2.2.2.2.2.1
theorem SOK.spent {B : Int} {s : Int → Int} (h : SOK B s) : 0 ≤ s 11 ∧ s 11 ≤ B := h.2.2.2.2.2.2.2.2.2.2.2.1
theorem SOK.place {B : Int} {s : Int → Int} (h : SOK B s) : 0 ≤ s 12 ∧ (s 12 = 0 ∨ s 12 < s 9) := h.2.2.2.2.2.2.2.2.2.2.2.2.1
theorem SOK.hol {B : Int} {s : Int → Int} (h : SOK B s) : ∀ k : Int, 0 ≤ k → k < s 3 → 1 ≤ wPl s k ∧ wPl s k ≤ 600 ∧ 2 ≤ wSz s k ∧ wSz s k ≤ 15 := h.2.2.2.2.2.2.2.2.2.2.2.2.2.1
theorem SOK.tune {B : Int} {s : Int → Int} (h : SOK B s) : ∀ k : Int, 0 ≤ k → k < s 9 → -1 ≤ wTu s k ∧ wTu s k ≤ 24 := h.2.2.2.2.2.2.2.2.2.2.2.2.2.2
theorem SOK.h7 {B : Int} {s : Int → Int} (h : SOK B s) : wH s ≤ 7 := by have := h.holes; unfold wH; omega
theorem SOK.hI {B : Int} {s : Int → Int} (h : SOK B s) : s 3 = (wH s : Int) := by have := h.holes; unfold wH; omega
theorem SOK.n40 {B : Int} {s : Int → Int} (h : SOK B s) : wN s ≤ 40 := by have := h.notes; unfold wN; omega
theorem SOK.nI {B : Int} {s : Int → Int} (h : SOK B s) : s 9 = (wN s : Int) := by have := h.notes; unfold wN; omega
theorem SOK.more {B C : Int} {s : Int → Int} (h : SOK B s) (hBC : B ≤ C) : SOK C s := ⟨h.len, h.bore, h.tol, h.holes, h.halves, h.crosses, h.move, h.half, h.breath, h.notes, h.play, ⟨h.spent.1, Int.le_trans h.spent.2 hBC⟩, h.place, h.hol, h.tune⟩
theorem SOK.okB {B : Int} {s : Int → Int} (h : SOK B s) : okB (s 1) (wPl s) (wSz s) (wH s) := ⟨h.bore.1, h.bore.2, h.h7, fun k a0 a1 => h.hol k a0 (by rw [h.hI]; exact a1)⟩
/-- what a State at b holds of a row -/
def CSt (σ : sT) (b : Nat) (s : Int → Int) : Prop := (σ b 0 = s 0) ∧ (σ b 1 = s 1) ∧ (σ b 2 = s 2) ∧ (σ b 3 = s 4) ∧ (σ b 4 = s 5) ∧ (σ b 5 = s 6) ∧ (σ b 6 = s 7) ∧ (σ b 7 = s 8) ∧ (σ b 8 = s 3) ∧ (σ b 9 = s 9) ∧ (σ b 10 = s 10) ∧ (σ b 11 = s 11) ∧ (σ b 12 = s 12) ∧ (∀ k : Int, 0 ≤ k → k < s 3 → σ (b + 1) k = wPl s k) ∧ (∀ k : Int, 0 ≤ k → k < s 3 → σ (b + 2) k = wSz s k) ∧ (∀ k : Int, 0 ≤ k → k < s 9 → σ (b + 3) k = wTu s k)
theorem CSt.f0 {σ : sT} {b : Nat} {s : Int → Int} (h : CSt σ b s) : σ b 0 = s 0 := h.1
theorem CSt.f1 {σ : sT} {b : Nat} {s : Int → Int} (h : CSt σ b s) : σ b 1 = s 1 := h.2.1
theorem CSt.f2 {σ : sT} {b : Nat} {s : Int → Int} (h : CSt σ b s) : σ b 2 = s 2 := h.2.2.1
theorem CSt.f3 {σ : sT} {b : Nat} {s : Int → Int} (h : CSt σ b s) : σ b 3 = s 4 := h.2.2.2.1
theorem CSt.f4 {σ : sT} {b : Nat} {s : Int → Int} (h : CSt σ b s) : σ b 4 = s 5 := h.2.2.2.2.1
theorem CSt.f5 {σ : sT} {b : Nat} {s : Int → Int} (h : CSt σ b s) : σ b 5 = s 6 := h.2.2.2.2.2.1
theorem CSt.f6 {σ : sT} {b : Nat} {s : Int → Int} (h : CSt σ b s) : σ b 6 = s 7 := h.2.2.2.2.2.2.1
theorem CSt.f7 {σ : sT} {b : Nat} {s : Int → Int} (h : CSt σ b s) : σ b 7 = s 8 := h.2.2.2.2.2.2.2.1
theorem CSt.f8 {σ : sT} {b : Nat} {s : Int → Int} (h : CSt σ b s) : σ b 8 = s 3 := h.2.2.2.2.2.2.2.2.1
theorem CSt.f9 {σ : sT} {b : Nat} {s : Int → Int} (h : CSt σ b s) : σ b 9 = s 9 := h.2.2.2.2.2.2.2.2.2.1
theorem CSt.f10 {σ : sT} {b : Nat} {s : Int → Int} (h : CSt σ b s) : σ b 10 = s 10 := h.2.2.2.2.2.2.2.2.2.2.1
theorem CSt.f11 {σ : sT} {b : Nat} {s : Int → Int} (h : CSt σ b s) : σ b 11 = s 11 := h.2.2.2.2.2.2.2.2.2.2.2.1
theorem CSt.f12 {σ : sT} {b : Nat} {s : Int → Int} (h : CSt σ b s) : σ b 12 = s 12 := h.2.2.2.2.2.2.2.2.2.2.2.2.1
theorem CSt.pl {σ : sT} {b : Nat} {s : Int → Int} (h : CSt σ b s) : ∀ k : Int, 0 ≤ k → k < s 3 → σ (b + 1) k = wPl s k := h.2.2.2.2.2.2.2.2.2.2.2.2.2.1
theorem CSt.sz {σ : sT} {b : Nat} {s : Int → Int} (h : CSt σ b s) : ∀ k : Int, 0 ≤ k → k < s 3 → σ (b + 2) k = wSz s k := h.2.2.2.2.2.2.2.2.2.2.2.2.2.2.1
theorem CSt.tu {σ : sT} {b : Nat} {s : Int → Int} (h : CSt σ b s) : ∀ k : Int, 0 ≤ k → k < s 9 → σ (b + 3) k = wTu s k := h.2.2.2.2.2.2.2.2.2.2.2.2.2.2.2
theorem CSt.frame {τ : sT} {b : Nat} {s : Int → Int} (h : CSt σ b s) (h0 : τ b = σ b) (h1 : τ (b + 1) = σ (b + 1)) (h2 : τ (b + 2) = σ (b + 2)) (h3 : τ (b + 3) = σ (b + 3)) : CSt τ b s := by
  obtain ⟨a0, a1, a2, a3, a4, a5, a6, a7, a8, a9, a10, a11, a12, p, z, t⟩ := h
  exact ⟨by rw [h0]; exact a0, by rw [h0]; exact a1, by rw [h0]; exact a2, by rw [h0]; exact a3, by rw [h0]; exact a4, by rw [h0]; exact a5, by rw [h0]; exact a6, by rw [h0]; exact a7, by rw [h0]; exact a8, by rw [h0]; exact a9, by rw [h0]; exact a10, by rw [h0]; exact a11, by rw [h0]; exact a12, by rw [h1]; exact p, by rw [h2]; exact z, by rw [h3]; exact t⟩
def wLen (s : Int → Int) (r : Int) : Int := Lq (s 1) (wPl s) (wSz s) (10 * s 0 + 6 * s 1) (wH s) (wH s) r
def wCen (s : Int → Int) (r : Int) : Int := pit (stI (10 * s 0 + 6 * s 1)) (wLen s r)
abbrev wTE (s : Int → Int) (hv cr : Int) : Int → Int := teP (wCen s) ((3 ^ wH s : Nat) : Int) (s 2) hv cr
abbrev wT (s : Int → Int) : Int → Int := tnP (wCen s) ((3 ^ wH s : Nat) : Int) (s 2)
abbrev wCo (s : Int → Int) : Int → Int → Int := coD (s 6) (s 7) (s 8) (wH s)
/-- where the plays of a note begin -/
def wRw (s TE : Int → Int) (b : Int) (k : Nat) : Int := frI (fun j => if wTu s j = -1 then 0 else ((EP TE (2 * 3 ^ wH s) (wTu s j + b)).length : Int)) k
theorem Lq_congr {b w : Int} {pl sz pl' sz' : Int → Int} {H : Nat} (h : ∀ k : Int, 0 ≤ k → k < H → pl k = pl' k ∧ sz k = sz' k) : ∀ m, m ≤ H → ∀ r, Lq b pl sz w H m r = Lq b pl' sz' w H m r := by
  intro m
  induction m with
  | zero => intro _ r; rfl
  | succ m ih =>
    intro hm r
    have a1 := h ((H : Int) - 1 - m) (by omega) (by omega)
    unfold Lq
    rw [a1.1, a1.2, ih (by omega)]
theorem cnI_congr {f f' : Int → Int} {t : Int} (n : Nat) (h : ∀ q : Nat, q < n → f q = f' q) : cnI f t n = cnI f' t n := by
  induction n with
  | zero => rfl
  | succ n ih => unfold cnI; rw [ih (fun q hq => h q (by omega)), h n (by omega)]
theorem EL_congr {f f' : Int → Int} {t : Int} (n : Nat) (h : ∀ q : Nat, q < n → f q = f' q) : EL f t n = EL f' t n := by
  induction n with
  | zero => rfl
  | succ n ih => rw [EL_succ, EL_succ, ih (fun q hq => h q (by omega)), h n (by omega)]
theorem limN_congr {T T' hF xF : Int → Int} {t : Int} (n : Nat) (h : ∀ q : Nat, q < n → T q = T' q) : limN T hF xF t n = limN T' hF xF t n := by
  induction n with
  | zero => rfl
  | succ n ih => unfold limN; rw [ih (fun q hq => h q (by omega)), h n (by omega)]
theorem ChO.congr {o N : Nat} {TE TE' T T' : Int → Int} {c : Int} (h1 : ∀ q : Nat, q < N → TE q = TE' q) (h2 : ∀ q : Nat, q < N → T q = T' q) (h : ChO σ o TE T c N) : ChO σ o TE' T' c N := by
  have e1 : (fun z => cnI TE z N) = (fun z => cnI TE' z N) := funext fun z => cnI_congr N h1
  obtain ⟨a1, a2, a3, a4⟩ := h
  refine ⟨?_, ?_, ?_, ?_⟩
  · rw [← e1]; exact a1
  · intro t ht i q hq
    rw [← e1]
    exact a2 t ht i q (by rw [EL_congr N h1]; exact hq)
  · intro t b0 b1
    rw [← cnI_congr N h2]
    exact a3 t b0 b1
  · intro t b0 b1
    rw [← limN_congr N h2]
    exact a4 t b0 b1
theorem fgF_rng {c p : Int} (h0 : 0 ≤ p) (h1 : p < 2 * c) : 0 ≤ fgF c p ∧ fgF c p < c := by unfold fgF; split <;> omega
theorem tnP_congr {cR cR' : Int → Int} {c tol p : Int} (h0 : 0 ≤ p) (h1 : p < 2 * c) (h : ∀ r, 0 ≤ r → r < c → cR r = cR' r) : tnP cR c tol p = tnP cR' c tol p := by
  have a1 := fgF_rng h0 h1
  unfold tnP
  rw [h _ a1.1 a1.2]
theorem teP_congr {cR cR' : Int → Int} {c tol hv cr p : Int} (h0 : 0 ≤ p) (h1 : p < 2 * c) (h : ∀ r, 0 ≤ r → r < c → cR r = cR' r) : teP cR c tol hv cr p = teP cR' c tol hv cr p := by
  unfold teP
  rw [tnP_congr h0 h1 h]
theorem wA_congr {co : Int → Int → Int} {E E' : Nat → List Nat} {tu tu' : Int → Int} {n : Nat} (h : ∀ k : Nat, k < n → tu k = tu' k) (hE : ∀ k, k < n → E k = E' k) : ∀ r j, j + r < n → ahR co E tu r j = ahR co E' tu' r j := by
  intro r
  induction r with
  | zero => intro j _; rfl
  | succ r ih =>
    intro j hj
    funext p
    unfold ahR
    rw [h (j + 1) (by omega), hE (j + 1) (by omega), ih (j + 1) (by omega)]
theorem wpF_congr {tu tu' : Int → Int} {AH AH' : Nat → Int → Int} {co : Int → Int → Int} {E E' : Nat → List Nat} {n : Nat} (h : ∀ k : Nat, k < n → tu k = tu' k) (hE : ∀ k, k < n → E k = E' k) (hA : ∀ k, k < n → AH k = AH' k) : ∀ k, k ≤ n → wpF tu AH co E k = wpF tu' AH' co E' k := by
  intro k
  induction k with
  | zero => intro _; rfl
  | succ k ih =>
    intro hk
    rw [wpF_s, wpF_s]
    unfold wpN
    rw [ih (by omega), h k (by omega), hE k (by omega), hA k (by omega)]
theorem wyT_congr {tu tu' : Int → Int} {AH AH' : Nat → Int → Int} {co : Int → Int → Int} {E E' : Nat → List Nat} {n : Nat} (h : ∀ k : Nat, k < n → tu k = tu' k) (hE : ∀ k, k < n → E k = E' k) (hA : ∀ k, k < n → AH k = AH' k) : ∀ k, k ≤ n → wyT tu AH co E k = wyT tu' AH' co E' k := by
  intro k
  induction k with
  | zero => intro _; rfl
  | succ k ih =>
    intro hk
    rw [wyT_s, wyT_s, ih (by omega), wpF_congr h hE hA k (by omega), wpF_congr h hE hA (k + 1) hk, h k (by omega)]
theorem EP_congr {TE TE' : Int → Int} {N : Nat} {t : Int} (h : ∀ q : Nat, q < N → TE q = TE' q) : EP TE N t = EP TE' N t := by
  unfold EP
  rw [EL_congr N h]
theorem WyO.congr {w n H : Nat} {b : Int} {co : Int → Int → Int} {tu tu' TE TE' : Int → Int} {rw_ rw' : Nat → Int} (h : ∀ k : Nat, k < n → tu k = tu' k) (hT : ∀ q : Nat, q < 2 * 3 ^ H → TE q = TE' q) (hr : ∀ k, k ≤ n → rw_ k = rw' k) (hW : WyO σ l w n H b co tu TE rw_) : WyO σ l w n H b co tu' TE' rw' := by
  have hE : ∀ k, k < n → wE TE tu H b k = wE TE' tu' H b k := fun k hk => by
    show EP TE (2 * 3 ^ H) (tu k + b) = EP TE' (2 * 3 ^ H) (tu' k + b)
    rw [h k hk, EP_congr hT]
  have hA : ∀ k, k < n → wA co (wE TE tu H b) tu n k = wA co (wE TE' tu' H b) tu' n k := fun k hk => wA_congr h hE _ _ (by omega)
  obtain ⟨a1, a2, a3, a4, a5⟩ := hW
  rw [wyT_congr h hE hA n (Nat.le_refl _)] at a1 a2
  refine ⟨a1, fun z k hk => ?_, fun k hk => by rw [← hr k (by omega)]; exact a3 k hk, by rw [← hr n (Nat.le_refl _)]; exact a4, fun k hk hk2 i q hq => ?_⟩
  · rw [← wpF_congr h hE hA (k + 1) (by omega)]
    exact a2 z k hk
  · rw [← hr k (by omega), ← hA k hk]
    exact a5 k hk (by rw [h k hk]; exact hk2) i q (by rw [hE k hk]; exact hq)
def FPw (σ : sT) (s : Int → Int) : Prop := σ 17 0 = ((3 ^ wH s : Nat) : Int) ∧ ∀ r, 0 ≤ r → r < ((3 ^ wH s : Nat) : Int) → σ 21 r = wLen s r ∧ σ 22 r = wCen s r
/-- what the class keeps beside the state: rows that grow, and what of them holds at each level -/
def CA (σ : sT) (l : Nat → Nat) (s : Int → Int) (f : Int) : Prop := (1 ≤ ln l 18 ∧ ln l 18 ≤ 2187) ∧ (FCap l (ln l 18)) ∧ (FG σ (ln l 18)) ∧ (CCap l 24 (ln l 29)) ∧ (2 ≤ ln l 29 ∧ ln l 29 ≤ 4374) ∧ (CCap l 32 (ln l 37)) ∧ (2 ≤ ln l 37 ∧ ln l 37 ≤ 4374) ∧ (2 ≤ ln l 44 ∧ ln l 44 ≤ 349920) ∧ (2 ≤ ln l 45 ∧ ln l 45 ≤ 4374) ∧ (2 ≤ ln l 50 ∧ ln l 50 ≤ 349920) ∧ (2 ≤ ln l 51 ∧ ln l 51 ≤ 4374) ∧ (1 ≤ σ 17 0 ∧ σ 17 0 ≤ (ln l 18 : Int)) ∧ (0 ≤ f ∧ f ≤ 3) ∧ (1 ≤ f → FPw σ s ∧ 3 ^ wH s ≤ ln l 18) ∧ (2 ≤ f → ChO σ 24 (wTE s (s 4) (s 5)) (wT s) ((3 ^ wH s : Nat) : Int) (2 * 3 ^ wH s) ∧ 2 * 3 ^ wH s ≤ ln l 29) ∧ (3 ≤ f → WyO σ l 40 (wN s) (wH s) 0 (wCo s) (wTu s) (wTE s (s 4) (s 5)) (wRw s (wTE s (s 4) (s 5)) 0))
theorem CA.c1 {σ : sT} {l : Nat → Nat} {s : Int → Int} {f : Int} (h : CA σ l s f) : 1 ≤ ln l 18 ∧ ln l 18 ≤ 2187 := h.1
theorem CA.fc {σ : sT} {l : Nat → Nat} {s : Int → Int} {f : Int} (h : CA σ l s f) : FCap l (ln l 18) := h.2.1
theorem CA.fg {σ : sT} {l : Nat → Nat} {s : Int → Int} {f : Int} (h : CA σ l s f) : FG σ (ln l 18) := h.2.2.1
theorem CA.ce {σ : sT} {l : Nat → Nat} {s : Int → Int} {f : Int} (h : CA σ l s f) : CCap l 24 (ln l 29) := h.2.2.2.1
theorem CA.e1 {σ : sT} {l : Nat → Nat} {s : Int → Int} {f : Int} (h : CA σ l s f) : 2 ≤ ln l 29 ∧ ln l 29 ≤ 4374 := h.2.2.2.2.1
theorem CA.co {σ : sT} {l : Nat → Nat} {s : Int → Int} {f : Int} (h : CA σ l s f) : CCap l 32 (ln l 37) := h.2.2.2.2.2.1
theorem CA.e2 {σ : sT} {l : Nat → Nat} {s : Int → Int} {f : Int} (h : CA σ l s f) : 2 ≤ ln l 37 ∧ ln l 37 ≤ 4374 := h.2.2.2.2.2.2.1
theorem CA.a1 {σ : sT} {l : Nat → Nat} {s : Int → Int} {f : Int} (h : CA σ l s f) : 2 ≤ ln l 44 ∧ ln l 44 ≤ 349920 := h.2.2.2.2.2.2.2.1
theorem CA.b1 {σ : sT} {l : Nat → Nat} {s : Int → Int} {f : Int} (h : CA σ l s f) : 2 ≤ ln l 45 ∧ ln l 45 ≤ 4374 := h.2.2.2.2.2.2.2.2.1
theorem CA.a2 {σ : sT} {l : Nat → Nat} {s : Int → Int} {f : Int} (h : CA σ l s f) : 2 ≤ ln l 50 ∧ ln l 50 ≤ 349920 := h.2.2.2.2.2.2.2.2.2.1
theorem CA.b2 {σ : sT} {l : Nat → Nat} {s : Int → Int} {f : Int} (h : CA σ l s f) : 2 ≤ ln l 51 ∧ ln l 51 ≤ 4374 := h.2.2.2.2.2.2.2.2.2.2.1
theorem CA.cnt {σ : sT} {l : Nat → Nat} {s : Int → Int} {f : Int} (h : CA σ l s f) : 1 ≤ σ 17 0 ∧ σ 17 0 ≤ (ln l 18 : Int) := h.2.2.2.2.2.2.2.2.2.2.2.1
theorem CA.lv {σ : sT} {l : Nat → Nat} {s : Int → Int} {f : Int} (h : CA σ l s f) : 0 ≤ f ∧ f ≤ 3 := h.2.2.2.2.2.2.2.2.2.2.2.2.1
theorem CA.p1 {σ : sT} {l : Nat → Nat} {s : Int → Int} {f : Int} (h : CA σ l s f) : 1 ≤ f → FPw σ s ∧ 3 ^ wH s ≤ ln l 18 := h.2.2.2.2.2.2.2.2.2.2.2.2.2.1
theorem CA.p2 {σ : sT} {l : Nat → Nat} {s : Int → Int} {f : Int} (h : CA σ l s f) : 2 ≤ f → ChO σ 24 (wTE s (s 4) (s 5)) (wT s) ((3 ^ wH s : Nat) : Int) (2 * 3 ^ wH s) ∧ 2 * 3 ^ wH s ≤ ln l 29 := h.2.2.2.2.2.2.2.2.2.2.2.2.2.2.1
theorem CA.p3 {σ : sT} {l : Nat → Nat} {s : Int → Int} {f : Int} (h : CA σ l s f) : 3 ≤ f → WyO σ l 40 (wN s) (wH s) 0 (wCo s) (wTu s) (wTE s (s 4) (s 5)) (wRw s (wTE s (s 4) (s 5)) 0) := h.2.2.2.2.2.2.2.2.2.2.2.2.2.2.2
theorem CA.less {s : Int → Int} {f f' : Int} (h : CA σ l s f) (h0 : 0 ≤ f') (h1 : f' ≤ f) : CA σ l s f' := ⟨h.c1, h.fc, h.fg, h.ce, h.e1, h.co, h.e2, h.a1, h.b1, h.a2, h.b2, h.cnt, ⟨h0, by have := h.lv; omega⟩, fun z => h.p1 (by omega), fun z => h.p2 (by omega), fun z => h.p3 (by omega)⟩
theorem WyO.frame {τ : sT} {l' : Nat → Nat} {w n H : Nat} {b : Int} {co : Int → Int → Int} {tu TE : Int → Int} {rw_ : Nat → Int} (hW : WyO σ l w n H b co tu TE rw_) (h : ∀ a, w ≤ a → a ≤ w + 5 → τ a = σ a) (hl : ln l' (w + 4) = ln l (w + 4)) : WyO τ l' w n H b co tu TE rw_ := by
  unfold WyO at *
  rw [h w (by omega) (by omega), h (w + 1) (by omega) (by omega), h (w + 2) (by omega) (by omega), h (w + 3) (by omega) (by omega), h (w + 4) (by omega) (by omega), hl]
  exact hW
theorem ChO.frame {τ : sT} {o N : Nat} {TE T : Int → Int} {c : Int} (hC : ChO σ o TE T c N) (h : ∀ a, o + 1 ≤ a → a ≤ o + 7 → τ a = σ a) : ChO τ o TE T c N := by
  unfold ChO at *
  rw [h (o + 1) (by omega) (by omega), h (o + 3) (by omega) (by omega), h (o + 4) (by omega) (by omega), h (o + 6) (by omega) (by omega), h (o + 7) (by omega) (by omega)]
  exact hC
/-- same rows, same lengths -/
def LE2 (l l' : Nat → Nat) : Prop := ∀ a, ln l' a = ln l a
theorem CA.frame {τ : sT} {l' : Nat → Nat} {s : Int → Int} {f : Int} (h : CA σ l s f) (hf : ∀ a, 17 ≤ a → a ≤ 45 → τ a = σ a) (hl : LE2 l l') : CA τ l' s f := by
  obtain ⟨c1, fc, fg, ce, e1, co, e2, a1, b1, a2, b2, cnt, lv, p1, p2, p3⟩ := h
  unfold FCap at fc; unfold CCap at ce co
  refine ⟨by rw [hl]; exact c1, ⟨rfl, by rw [hl, hl]; exact fc.2.1, by rw [hl, hl]; exact fc.2.2.1, by rw [hl, hl]; exact fc.2.2.2.1, by rw [hl, hl]; exact fc.2.2.2.2⟩, fun p x0 x1 => by unfold FG1; rw [hf 18 (by decide) (by decide), hf 19 (by decide) (by decide), hf 20 (by decide) (by decide)]; exact fg p x0 (by rw [hl] at x1; exact x1), ⟨rfl, by rw [hl, hl]; exact ce.2.1, by rw [hl, hl]; exact ce.2.2⟩, by rw [hl]; exact e1, ⟨rfl, by rw [hl, hl]; exact co.2.1, by rw [hl, hl]; exact co.2.2⟩, by rw [hl]; exact e2, by rw [hl]; exact a1, by rw [hl]; exact b1, by rw [hl]; exact a2, by rw [hl]; exact b2, by rw [hl, hf 17 (by decide) (by decide)]; exact cnt, lv, fun z => ?_, fun z => ?_, fun z => (p3 z).frame (fun a x0 x1 => hf a (by omega) (by omega)) (hl _)⟩
  · unfold FPw; rw [hl, hf 17 (by decide) (by decide), hf 21 (by decide) (by decide), hf 22 (by decide) (by decide)]; exact p1 z
  · rw [hl]; exact ⟨(p2 z).1.frame (fun a x0 x1 => hf a (by omega) (by omega)), (p2 z).2⟩
/-- the class as a whole, its state's row s -/
def Kc (σ : sT) (l : Nat → Nat) (B : Int) (s : Int → Int) : Prop := (SOK B s) ∧ (CSt σ 1 s) ∧ (CA σ l s (σ 0 15))
theorem Kc.ok {σ : sT} {l : Nat → Nat} {B : Int} {s : Int → Int} (h : Kc σ l B s) : SOK B s := h.1
theorem Kc.st {σ : sT} {l : Nat → Nat} {B : Int} {s : Int → Int} (h : Kc σ l B s) : CSt σ 1 s := h.2.1
theorem Kc.ca {σ : sT} {l : Nat → Nat} {B : Int} {s : Int → Int} (h : Kc σ l B s) : CA σ l s (σ 0 15) := h.2.2
/-- what a question may change -/
def Qf (σ τ : sT) : Prop := (∀ a, a ≠ 0 → a < 17 ∨ 51 < a → τ a = σ a) ∧ ∀ j, j ≠ 15 → τ 0 j = σ 0 j
theorem Qf.refl (σ : sT) : Qf σ σ := ⟨fun _ _ _ => rfl, fun _ _ => rfl⟩
theorem Qf.trans {σ τ ρ : sT} (h1 : Qf σ τ) (h2 : Qf τ ρ) : Qf σ ρ := ⟨fun a a0 a1 => (h2.1 a a0 a1).trans (h1.1 a a0 a1), fun j hj => (h2.2 j hj).trans (h1.2 j hj)⟩
theorem Kc.frame {τ : sT} {l' : Nat → Nat} {B : Int} {s : Int → Int} (h : Kc σ l B s) (hf : ∀ a, 1 ≤ a → a ≤ 45 → τ a = σ a) (h0 : τ 0 15 = σ 0 15) (hl : LE2 l l') : Kc τ l' B s := ⟨h.ok, h.st.frame (hf 1 (by decide) (by decide)) (hf 2 (by decide) (by decide)) (hf 3 (by decide) (by decide)) (hf 4 (by decide) (by decide)), by rw [h0]; exact h.ca.frame (fun a x0 x1 => hf a (by omega) x1) hl⟩
end C43
