/-! The reader: numbers into the draft -/
section C61
variable {g : gT} {σ τ : sT} {l : Nat → Nat}
/-- the outcome of a step that can fail -/
def Ry {α β : Type} (l : Nat → Nat) (A : α → sT → Prop) (B : β → sT → Prop) (r : Sum α β) : mO → sT → (Nat → Nat) → Prop := fun o τ l' => l' = l ∧ match r with
  | .inl e => o = .inl (some (iv 0)) ∧ A e τ
  | .inr q => o = .inl (some (iv 1)) ∧ B q τ
theorem Ry.split {α β : Type} {A : α → sT → Prop} {B : β → sT → Prop} {r : Sum α β} {v : Option Value} {τ : sT} {l' : Nat → Nat} (h : Ry l A B r (.inl v) τ l') : l' = l ∧ ((∃ e, r = .inl e ∧ v = some (iv 0) ∧ A e τ) ∨ ∃ q, r = .inr q ∧ v = some (iv 1) ∧ B q τ) := by
  obtain ⟨h1, h2⟩ := h
  refine ⟨h1, ?_⟩
  rcases r with e | q
  · exact Or.inl ⟨e, rfl, by cases h2.1; rfl, h2.2⟩
  · exact Or.inr ⟨q, rfl, by cases h2.1; rfl, h2.2⟩
theorem Ry.nx {α β : Type} {A : α → sT → Prop} {B : β → sT → Prop} {r : Sum α β} {e : Nat} {τ : sT} {l' : Nat → Nat} (h : Ry l A B r (.inr e) τ l') : False := by
  obtain ⟨h1, h2⟩ := h
  rcases r with e | q
  · cases h2.1
  · cases h2.1
theorem Ry.no {α β : Type} {A : α → sT → Prop} {B : β → sT → Prop} {r : Sum α β} {e : α} {τ : sT} (hr : r = .inl e) (h : A e τ) : fΦ (Ry l A B r) (.inl (some (iv 0))) (mem τ l) := by
  subst hr
  exact ⟨τ, l, rfl, rfl, rfl, h⟩
theorem Ry.yes {α β : Type} {A : α → sT → Prop} {B : β → sT → Prop} {r : Sum α β} {q : β} {τ : sT} (hr : r = .inr q) (h : B q τ) : fΦ (Ry l A B r) (.inl (some (iv 1))) (mem τ l) := by
  subst hr
  exact ⟨τ, l, rfl, rfl, rfl, h⟩
def PFt (σ : sT) (N : Nat) (st : Int) (e : Int × Nat) (τ : sT) : Prop := (∀ a, a ≠ 9 → a < 11 ∨ 15 < a → τ a = σ a) ∧ (τ 9 1 = (N : Int)) ∧ (τ 9 2 = e.1) ∧ (τ 9 3 = (e.2 : Int)) ∧ (τ 9 4 = st)
theorem PFt.fr {σ : sT} {N : Nat} {st : Int} {e : Int × Nat} {τ : sT} (h : PFt σ N st e τ) : ∀ a, a ≠ 9 → a < 11 ∨ 15 < a → τ a = σ a := h.1
theorem PFt.len {σ : sT} {N : Nat} {st : Int} {e : Int × Nat} {τ : sT} (h : PFt σ N st e τ) : τ 9 1 = (N : Int) := h.2.1
theorem PFt.err {σ : sT} {N : Nat} {st : Int} {e : Int × Nat} {τ : sT} (h : PFt σ N st e τ) : τ 9 2 = e.1 := h.2.2.1
theorem PFt.pl {σ : sT} {N : Nat} {st : Int} {e : Int × Nat} {τ : sT} (h : PFt σ N st e τ) : τ 9 3 = (e.2 : Int) := h.2.2.2.1
theorem PFt.stm {σ : sT} {N : Nat} {st : Int} {e : Int × Nat} {τ : sT} (h : PFt σ N st e τ) : τ 9 4 = st := h.2.2.2.2
def PSt (σ : sT) (N : Nat) (st : Int) (ht : Int) (q : (Int → Int) × Nat) (τ : sT) : Prop := (∀ a, a ≠ 9 → a < 11 ∨ 15 < a → τ a = σ a) ∧ (τ 9 1 = (N : Int)) ∧ (τ 9 2 = 0) ∧ (τ 9 3 = 0) ∧ (τ 9 4 = st) ∧ (τ 9 6 = (q.2 : Int)) ∧ (τ 9 9 = ht) ∧ (CSt τ 11 q.1) ∧ (SOK 0 q.1) ∧ (q.2 ≤ N)
theorem PSt.fr {σ : sT} {N : Nat} {st : Int} {ht : Int} {q : (Int → Int) × Nat} {τ : sT} (h : PSt σ N st ht q τ) : ∀ a, a ≠ 9 → a < 11 ∨ 15 < a → τ a = σ a := h.1
theorem PSt.len {σ : sT} {N : Nat} {st : Int} {ht : Int} {q : (Int → Int) × Nat} {τ : sT} (h : PSt σ N st ht q τ) : τ 9 1 = (N : Int) := h.2.1
theorem PSt.err {σ : sT} {N : Nat} {st : Int} {ht : Int} {q : (Int → Int) × Nat} {τ : sT} (h : PSt σ N st ht q τ) : τ 9 2 = 0 := h.2.2.1
theorem PSt.pl {σ : sT} {N : Nat} {st : Int} {ht : Int} {q : (Int → Int) × Nat} {τ : sT} (h : PSt σ N st ht q τ) : τ 9 3 = 0 := h.2.2.2.1
theorem PSt.stm {σ : sT} {N : Nat} {st : Int} {ht : Int} {q : (Int → Int) × Nat} {τ : sT} (h : PSt σ N st ht q τ) : τ 9 4 = st := h.2.2.2.2.1
theorem PSt.pos {σ : sT} {N : Nat} {st : Int} {ht : Int} {q : (Int → Int) × Nat} {τ : sT} (h : PSt σ N st ht q τ) : τ 9 6 = (q.2 : Int) := h.2.2.2.2.2.1
theorem PSt.tun {σ : sT} {N : Nat} {st : Int} {ht : Int} {q : (Int → Int) × Nat} {τ : sT} (h : PSt σ N st ht q τ) : τ 9 9 = ht := h.2.2.2.2.2.2.1
theorem PSt.cst {σ : sT} {N : Nat} {st : Int} {ht : Int} {q : (Int → Int) × Nat} {τ : sT} (h : PSt σ N st ht q τ) : CSt τ 11 q.1 := h.2.2.2.2.2.2.2.1
theorem PSt.sok {σ : sT} {N : Nat} {st : Int} {ht : Int} {q : (Int → Int) × Nat} {τ : sT} (h : PSt σ N st ht q τ) : SOK 0 q.1 := h.2.2.2.2.2.2.2.2.1
theorem PSt.le {σ : sT} {N : Nat} {st : Int} {ht : Int} {q : (Int → Int) × Nat} {τ : sT} (h : PSt σ N st ht q τ) : q.2 ≤ N := h.2.2.2.2.2.2.2.2.2
theorem PSt.c {N p : Nat} {st ht : Int} {d : Int → Int} (h : PSt σ N st ht (d, p) τ) : CSt τ 11 d := h.cst
theorem PSt.s {N p : Nat} {st ht : Int} {d : Int → Int} (h : PSt σ N st ht (d, p) τ) : SOK 0 d := h.sok
theorem PSt.txt {N : Nat} {st ht : Int} {q : (Int → Int) × Nat} (h : PSt σ N st ht q τ) : τ 10 = σ 10 := h.fr 10 (by decide) (Or.inl (by decide))
theorem CSt.n9 {ρ : sT} {d : Int → Int} (h : CSt τ 11 d) (hn : N9 τ ρ) : CSt ρ 11 d := h.frame (hn.1 _ (by decide)) (hn.1 _ (by decide)) (hn.1 _ (by decide)) (hn.1 _ (by decide))
theorem PSt.n9 {ρ : sT} {N p e : Nat} {st ht : Int} {d : Int → Int} (h : PSt σ N st ht (d, p) τ) (hn : N9 τ ρ) (h2 : ρ 9 2 = τ 9 2) (h3 : ρ 9 3 = τ 9 3) (h6 : ρ 9 6 = (e : Int)) (he : e ≤ N) : PSt σ N st ht (d, e) ρ :=
  ⟨fun a a0 a1 => (hn.1 a a0).trans (h.fr a a0 a1), (hn.2 1 (by decide) (by decide) (by decide) (by decide) (by decide)).trans h.len, h2.trans h.err, h3.trans h.pl, (hn.2 4 (by decide) (by decide) (by decide) (by decide) (by decide)).trans h.stm, h6, (hn.2 9 (by decide) (by decide) (by decide) (by decide) (by decide)).trans h.tun, h.cst.n9 hn, h.sok, he⟩
theorem PSt.fail {ρ : sT} {N p : Nat} {st ht : Int} {d : Int → Int} {e : Int × Nat} (h : PSt σ N st ht (d, p) τ) (hn : N9 τ ρ) (h2 : ρ 9 2 = e.1) (h3 : ρ 9 3 = (e.2 : Int)) : PFt σ N st e ρ :=
  ⟨fun a a0 a1 => (hn.1 a a0).trans (h.fr a a0 a1), (hn.2 1 (by decide) (by decide) (by decide) (by decide) (by decide)).trans h.len, h2, h3, (hn.2 4 (by decide) (by decide) (by decide) (by decide) (by decide)).trans h.stm⟩
theorem PSt.set {ρ : sT} {N p : Nat} {st ht : Int} {d d' : Int → Int} (h : PSt σ N st ht (d, p) τ) (hf : ∀ a, a < 11 ∨ 14 < a → ρ a = τ a) (hc : CSt ρ 11 d') (ho : SOK 0 d') : PSt σ N st ht (d', p) ρ :=
  ⟨fun a a0 a1 => (hf a (by omega)).trans (h.fr a a0 a1), by rw [hf 9 (by decide)]; exact h.len, by rw [hf 9 (by decide)]; exact h.err, by rw [hf 9 (by decide)]; exact h.pl, by rw [hf 9 (by decide)]; exact h.stm, by rw [hf 9 (by decide)]; exact h.pos, by rw [hf 9 (by decide)]; exact h.tun, hc, ho, h.le⟩
theorem n9_fail {k pl : Int} : N9 τ (up (up τ 9 2 k) 9 3 pl) := ((N9.refl τ).up (by decide)).up (by decide)
theorem num_le {T : Int → Int} {N p e : Nat} {lo hi v : Int} (hp : p ≤ N) (h : rNum T N lo hi p = .inr (v, e)) : e ≤ N := by
  have h1 := (rNum_r h).2.2.2.2
  have h2 := sk_le (Q := isSp) (T := T) hp
  have h3 := sk_le (Q := isDg) (T := T) h2.2
  omega
theorem PSt.num {ρ : sT} {N p e : Nat} {st ht lo hi v : Int} {d : Int → Int} {sp : Nat} (h : PSt σ N st ht (d, p) τ) (hn : nmB τ sp (v, e) ρ) (hr : rNum (σ 10) N lo hi p = .inr (v, e)) : PSt σ N st ht (d, e) ρ ∧ ρ 9 8 = v ∧ lo ≤ v ∧ v ≤ hi :=
  ⟨h.n9 hn.1 hn.2.1 hn.2.2.1 hn.2.2.2.1 (num_le h.le hr), hn.2.2.2.2.2, (rNum_r hr).1, (rNum_r hr).2.1⟩
theorem PSt.numF {ρ : sT} {N p : Nat} {st ht : Int} {d : Int → Int} {e : Int × Nat} (h : PSt σ N st ht (d, p) τ) (hn : nmA τ e ρ) : PFt σ N st e ρ := h.fail hn.1 hn.2.1 hn.2.2
def rLimit (T : Int → Int) (N : Nat) (d : Int → Int) (p : Nat) : Sum (Int × Nat) ((Int → Int) × Nat) := match rNum T N 0 2 p with
  | .inl e => .inl e
  | .inr (v, p1) => match rNum T N 0 3 p1 with
    | .inl e => .inl e
    | .inr (w, p2) => .inr (su (su d 4 v) 5 w, p2)
def rCost (T : Int → Int) (N : Nat) (d : Int → Int) (p : Nat) : Sum (Int × Nat) ((Int → Int) × Nat) := match rNum T N 1 9 p with
  | .inl e => .inl e
  | .inr (v, p1) => match rNum T N 1 9 p1 with
    | .inl e => .inl e
    | .inr (w, p2) => match rNum T N 0 9 p2 with
      | .inl e => .inl e
      | .inr (u, p3) => .inr (su (su (su d 6 v) 7 w) 8 u, p3)
def rHole (T : Int → Int) (N : Nat) (d : Int → Int) (q p : Nat) : Sum (Int × Nat) ((Int → Int) × Nat) :=
  if 7 ≤ d 3 then .inl (3, q) else match rNum T N (if d 3 = 0 then 1 else wPl d (d 3 - 1) + 1) (d 0 - 1) p with
  | .inl e => .inl e
  | .inr (v, p1) => match rNum T N 2 15 p1 with
    | .inl e => .inl e
    | .inr (w, p2) => .inr (su (su (su d (13 + 2 * d 3) v) (14 + 2 * d 3) w) 3 (d 3 + 1), p2)
theorem readLimit_ok {N p : Nat} {st ht : Int} {d : Int → Int} (hT : TX (σ 10) N) (h : PSt σ N st ht (d, p) τ) : Fn g zX2_readLimit 0 0 [.ref 9] τ l (Ry l (PFt σ N st) (PSt σ N st ht) (rLimit (σ 10) N d p)) := by
  refine Fn.of [some (.ref 9)] rfl (by decide) (Nat.le_of_ble_eq_true rfl) rfl ?_
  refine g_aload0 dX2_readLimit_0 ?_
  refine g_iconst dX2_readLimit_1 ?_
  refine g_iconst dX2_readLimit_2 ?_
  refine f_cV2n (readNumber_ok hT h.len h.txt h.pos h.le ⟨by decide, by decide⟩ ⟨by decide, by decide⟩) rfl (by decide) rfl oY_X2_readNumber oI_X2_readNumber lk_X2_123 rfl dX2_readLimit_3 (Nat.zero_le _) (Nat.zero_le _) rfl (Or.inl rfl) (fun v3 σ3 l3 h3 => ?_) (fun e3 σ3 l3 h3 => ?_)
  · obtain ⟨e3, y3⟩ := Rz.split h3
    subst e3
    rcases y3 with ⟨k3, pl3, r3, rfl, n3⟩ | ⟨w3, q3, r3, rfl, n3⟩
    · show GW g _ _ _ _ _ _ (iv 0 :: _) _
      refine g_if_ne ⟨by decide, by decide⟩ (tgt := 11) dX2_readLimit_6 rfl (fun h6 => absurd h6 (by decide)) (fun h6 => ?_)
      refine g_iconst dX2_readLimit_9 ?_
      refine g_iretB (Or.inl rfl) rfl dX2_readLimit_10 ?_
      exact Ry.no (by simp only [rLimit, r3]) (h.numF n3)
    · show GW g _ _ _ _ _ _ (iv 1 :: _) _
      obtain ⟨Q3, x3, a3, b3⟩ := h.num n3 r3
      refine g_if_ne ⟨by decide, by decide⟩ (tgt := 11) dX2_readLimit_6 rfl (fun h6 => ?_) (fun h6 => absurd h6 (by decide))
      refine g_aload0 dX2_readLimit_11 ?_
      refine f_getr (r := 11) rfl (by decide) rfl rfl fl_X2_31 dX2_readLimit_12 ?_
      refine g_aload0 dX2_readLimit_15 ?_
      refine f_geti (J := 8) rfl (by decide) rfl rfl fl_X2_41 dX2_readLimit_16 ?_
      rw [x3]
      refine f_puti (J := 3) rfl (by decide) rfl rfl fl_X2_163 rfl (fun _ _ _ h => by cases h; rfl) dX2_readLimit_19 ?_
      have S1 := Q3.set (d' := su d 4 w3) (fun a ha => up_n (by omega)) Q3.c.u4 (Q3.s.u4 ⟨a3, b3⟩)
      refine g_aload0 dX2_readLimit_22 ?_
      refine g_iconst dX2_readLimit_23 ?_
      refine g_iconst dX2_readLimit_24 ?_
      refine f_cV2n (readNumber_ok hT S1.len S1.txt S1.pos S1.le ⟨by decide, by decide⟩ ⟨by decide, by decide⟩) rfl (by decide) rfl oY_X2_readNumber oI_X2_readNumber lk_X2_123 rfl dX2_readLimit_25 (Nat.zero_le _) (Nat.zero_le _) rfl (Or.inl rfl) (fun v25 σ25 l25 h25 => ?_) (fun e25 σ25 l25 h25 => ?_)
      · obtain ⟨e25, y25⟩ := Rz.split h25
        subst e25
        rcases y25 with ⟨k25, pl25, r25, rfl, n25⟩ | ⟨w25, q25, r25, rfl, n25⟩
        · show GW g _ _ _ _ _ _ (iv 0 :: _) _
          refine g_if_ne ⟨by decide, by decide⟩ (tgt := 33) dX2_readLimit_28 rfl (fun h28 => absurd h28 (by decide)) (fun h28 => ?_)
          refine g_iconst dX2_readLimit_31 ?_
          refine g_iretB (Or.inl rfl) rfl dX2_readLimit_32 ?_
          exact Ry.no (by simp only [rLimit, r3, r25]) (S1.numF n25)
        · show GW g _ _ _ _ _ _ (iv 1 :: _) _
          obtain ⟨Q25, x25, a25, b25⟩ := S1.num n25 r25
          refine g_if_ne ⟨by decide, by decide⟩ (tgt := 33) dX2_readLimit_28 rfl (fun h28 => ?_) (fun h28 => absurd h28 (by decide))
          refine g_aload0 dX2_readLimit_33 ?_
          refine f_getr (r := 11) rfl (by decide) rfl rfl fl_X2_31 dX2_readLimit_34 ?_
          refine g_aload0 dX2_readLimit_37 ?_
          refine f_geti (J := 8) rfl (by decide) rfl rfl fl_X2_41 dX2_readLimit_38 ?_
          rw [x25]
          refine f_puti (J := 4) rfl (by decide) rfl rfl fl_X2_166 rfl (fun _ _ _ h => by cases h; rfl) dX2_readLimit_41 ?_
          refine g_iconst dX2_readLimit_44 ?_
          refine g_iretB (Or.inr rfl) rfl dX2_readLimit_45 ?_
          exact Ry.yes (by simp only [rLimit, r3, r25]) (Q25.set (fun a ha => up_n (by omega)) Q25.c.u5 (Q25.s.u5 ⟨a25, b25⟩))
      · exact (Rz.nx h25).elim
  · exact (Rz.nx h3).elim
theorem readCost_ok {N p : Nat} {st ht : Int} {d : Int → Int} (hT : TX (σ 10) N) (h : PSt σ N st ht (d, p) τ) : Fn g zX2_readCost 0 0 [.ref 9] τ l (Ry l (PFt σ N st) (PSt σ N st ht) (rCost (σ 10) N d p)) := by
  refine Fn.of [some (.ref 9)] rfl (by decide) (Nat.le_of_ble_eq_true rfl) rfl ?_
  refine g_aload0 dX2_readCost_0 ?_
  refine g_iconst dX2_readCost_1 ?_
  refine g_bipush dX2_readCost_2 (by decide) ?_
  refine f_cV2n (readNumber_ok hT h.len h.txt h.pos h.le ⟨by decide, by decide⟩ ⟨by decide, by decide⟩) rfl (by decide) rfl oY_X2_readNumber oI_X2_readNumber lk_X2_123 rfl dX2_readCost_4 (Nat.zero_le _) (Nat.zero_le _) rfl (Or.inl rfl) (fun v4 σ4 l4 h4 => ?_) (fun e4 σ4 l4 h4 => ?_)
  · obtain ⟨e4, y4⟩ := Rz.split h4
    subst e4
    rcases y4 with ⟨k4, pl4, r4, rfl, n4⟩ | ⟨w4, q4, r4, rfl, n4⟩
    · show GW g _ _ _ _ _ _ (iv 0 :: _) _
      refine g_if_ne ⟨by decide, by decide⟩ (tgt := 12) dX2_readCost_7 rfl (fun h7 => absurd h7 (by decide)) (fun h7 => ?_)
      refine g_iconst dX2_readCost_10 ?_
      refine g_iretB (Or.inl rfl) rfl dX2_readCost_11 ?_
      exact Ry.no (by simp only [rCost, r4]) (h.numF n4)
    · show GW g _ _ _ _ _ _ (iv 1 :: _) _
      obtain ⟨Q4, x4, a4, b4⟩ := h.num n4 r4
      refine g_if_ne ⟨by decide, by decide⟩ (tgt := 12) dX2_readCost_7 rfl (fun h7 => ?_) (fun h7 => absurd h7 (by decide))
      refine g_aload0 dX2_readCost_12 ?_
      refine f_getr (r := 11) rfl (by decide) rfl rfl fl_X2_31 dX2_readCost_13 ?_
      refine g_aload0 dX2_readCost_16 ?_
      refine f_geti (J := 8) rfl (by decide) rfl rfl fl_X2_41 dX2_readCost_17 ?_
      rw [x4]
      refine f_puti (J := 5) rfl (by decide) rfl rfl fl_X2_169 rfl (fun _ _ _ h => by cases h; rfl) dX2_readCost_20 ?_
      have S1 := Q4.set (d' := su d 6 w4) (fun a ha => up_n (by omega)) Q4.c.u6 (Q4.s.u6 ⟨a4, b4⟩)
      refine g_aload0 dX2_readCost_23 ?_
      refine g_iconst dX2_readCost_24 ?_
      refine g_bipush dX2_readCost_25 (by decide) ?_
      refine f_cV2n (readNumber_ok hT S1.len S1.txt S1.pos S1.le ⟨by decide, by decide⟩ ⟨by decide, by decide⟩) rfl (by decide) rfl oY_X2_readNumber oI_X2_readNumber lk_X2_123 rfl dX2_readCost_27 (Nat.zero_le _) (Nat.zero_le _) rfl (Or.inl rfl) (fun v27 σ27 l27 h27 => ?_) (fun e27 σ27 l27 h27 => ?_)
      · obtain ⟨e27, y27⟩ := Rz.split h27
        subst e27
        rcases y27 with ⟨k27, pl27, r27, rfl, n27⟩ | ⟨w27, q27, r27, rfl, n27⟩
        · show GW g _ _ _ _ _ _ (iv 0 :: _) _
          refine g_if_ne ⟨by decide, by decide⟩ (tgt := 35) dX2_readCost_30 rfl (fun h30 => absurd h30 (by decide)) (fun h30 => ?_)
          refine g_iconst dX2_readCost_33 ?_
          refine g_iretB (Or.inl rfl) rfl dX2_readCost_34 ?_
          exact Ry.no (by simp only [rCost, r4, r27]) (S1.numF n27)
        · show GW g _ _ _ _ _ _ (iv 1 :: _) _
          obtain ⟨Q27, x27, a27, b27⟩ := S1.num n27 r27
          refine g_if_ne ⟨by decide, by decide⟩ (tgt := 35) dX2_readCost_30 rfl (fun h30 => ?_) (fun h30 => absurd h30 (by decide))
          refine g_aload0 dX2_readCost_35 ?_
          refine f_getr (r := 11) rfl (by decide) rfl rfl fl_X2_31 dX2_readCost_36 ?_
          refine g_aload0 dX2_readCost_39 ?_
          refine f_geti (J := 8) rfl (by decide) rfl rfl fl_X2_41 dX2_readCost_40 ?_
          rw [x27]
          refine f_puti (J := 6) rfl (by decide) rfl rfl fl_X2_172 rfl (fun _ _ _ h => by cases h; rfl) dX2_readCost_43 ?_
          have S2 := Q27.set (d' := su (su d 6 w4) 7 w27) (fun a ha => up_n (by omega)) Q27.c.u7 (Q27.s.u7 ⟨a27, b27⟩)
          refine g_aload0 dX2_readCost_46 ?_
          refine g_iconst dX2_readCost_47 ?_
          refine g_bipush dX2_readCost_48 (by decide) ?_
          refine f_cV2n (readNumber_ok hT S2.len S2.txt S2.pos S2.le ⟨by decide, by decide⟩ ⟨by decide, by decide⟩) rfl (by decide) rfl oY_X2_readNumber oI_X2_readNumber lk_X2_123 rfl dX2_readCost_50 (Nat.zero_le _) (Nat.zero_le _) rfl (Or.inl rfl) (fun v50 σ50 l50 h50 => ?_) (fun e50 σ50 l50 h50 => ?_)
          · obtain ⟨e50, y50⟩ := Rz.split h50
            subst e50
            rcases y50 with ⟨k50, pl50, r50, rfl, n50⟩ | ⟨w50, q50, r50, rfl, n50⟩
            · show GW g _ _ _ _ _ _ (iv 0 :: _) _
              refine g_if_ne ⟨by decide, by decide⟩ (tgt := 58) dX2_readCost_53 rfl (fun h53 => absurd h53 (by decide)) (fun h53 => ?_)
              refine g_iconst dX2_readCost_56 ?_
              refine g_iretB (Or.inl rfl) rfl dX2_readCost_57 ?_
              exact Ry.no (by simp only [rCost, r4, r27, r50]) (S2.numF n50)
            · show GW g _ _ _ _ _ _ (iv 1 :: _) _
              obtain ⟨Q50, x50, a50, b50⟩ := S2.num n50 r50
              refine g_if_ne ⟨by decide, by decide⟩ (tgt := 58) dX2_readCost_53 rfl (fun h53 => ?_) (fun h53 => absurd h53 (by decide))
              refine g_aload0 dX2_readCost_58 ?_
              refine f_getr (r := 11) rfl (by decide) rfl rfl fl_X2_31 dX2_readCost_59 ?_
              refine g_aload0 dX2_readCost_62 ?_
              refine f_geti (J := 8) rfl (by decide) rfl rfl fl_X2_41 dX2_readCost_63 ?_
              rw [x50]
              refine f_puti (J := 7) rfl (by decide) rfl rfl fl_X2_175 rfl (fun _ _ _ h => by cases h; rfl) dX2_readCost_66 ?_
              refine g_iconst dX2_readCost_69 ?_
              refine g_iretB (Or.inr rfl) rfl dX2_readCost_70 ?_
              exact Ry.yes (by simp only [rCost, r4, r27, r50]) (Q50.set (fun a ha => up_n (by omega)) Q50.c.u8 (Q50.s.u8 ⟨a50, b50⟩))
          · exact (Rz.nx h50).elim
      · exact (Rz.nx h27).elim
  · exact (Rz.nx h4).elim
theorem CSt.u3 {b : Nat} {s : Int → Int} (h : CSt σ b s) (h3 : 0 ≤ s 3) (hp : σ (b + 1) (s 3) = wPl s (s 3)) (hz : σ (b + 2) (s 3) = wSz s (s 3)) : CSt (up σ b 8 (s 3 + 1)) b (su s 3 (s 3 + 1)) := by
  refine ⟨?_, ?_, ?_, ?_, ?_, ?_, ?_, ?_, ?_, ?_, ?_, ?_, ?_, ?_, ?_, ?_⟩
  · rw [up_ne (by omega), su_ne (by decide)]; exact h.f0
  · rw [up_ne (by omega), su_ne (by decide)]; exact h.f1
  · rw [up_ne (by omega), su_ne (by decide)]; exact h.f2
  · rw [up_ne (by omega), su_ne (by decide)]; exact h.f3
  · rw [up_ne (by omega), su_ne (by decide)]; exact h.f4
  · rw [up_ne (by omega), su_ne (by decide)]; exact h.f5
  · rw [up_ne (by omega), su_ne (by decide)]; exact h.f6
  · rw [up_ne (by omega), su_ne (by decide)]; exact h.f7
  · rw [up_eq, su_eq]
  · rw [up_ne (by omega), su_ne (by decide)]; exact h.f9
  · rw [up_ne (by omega), su_ne (by decide)]; exact h.f10
  · rw [up_ne (by omega), su_ne (by decide)]; exact h.f11
  · rw [up_ne (by omega), su_ne (by decide)]; exact h.f12
  · intro k k0 k1
    rw [su_eq] at k1
    rw [up_n (by omega), wPl_su (by decide)]
    by_cases c : k = s 3
    · rw [c]; exact hp
    · exact h.pl k k0 (by omega)
  · intro k k0 k1
    rw [su_eq] at k1
    rw [up_n (by omega), wSz_su (by decide)]
    by_cases c : k = s 3
    · rw [c]; exact hz
    · exact h.sz k k0 (by omega)
  · intro k k0 k1
    rw [su_ne (by decide)] at k1
    rw [up_n (by omega), wTu_su (by decide)]
    exact h.tu k k0 k1
def hoS (d : Int → Int) (v w : Int) : Int → Int := su (su (su d (13 + 2 * d 3) v) (14 + 2 * d 3) w) 3 (d 3 + 1)
theorem hoS_ok {d : Int → Int} {v w : Int} (ho : SOK 0 d) (h7 : d 3 < 7) (hv : 1 ≤ v ∧ v ≤ 600) (hw : 2 ≤ w ∧ w ≤ 15) : SOK 0 (hoS d v w) := by
  have h3 := ho.holes
  have e : ∀ k : Int, k < 13 → k ≠ 3 → hoS d v w k = d k := fun k hk hn => by unfold hoS; rw [su_ne hn, su_ne (by omega), su_ne (by omega)]
  have e3 : hoS d v w 3 = d 3 + 1 := su_eq
  have hp0 := p3_pos (wH d)
  have eH : wH (hoS d v w) = wH d + 1 := by unfold wH; rw [e3]; omega
  have hpl := ho.play
  refine ⟨?_, ?_, ?_, ?_, ?_, ?_, ?_, ?_, ?_, ?_, ?_, ?_, ?_, ?_, ?_⟩
  · rw [e 0 (by decide) (by decide)]; exact ho.len
  · rw [e 1 (by decide) (by decide)]; exact ho.bore
  · rw [e 2 (by decide) (by decide)]; exact ho.tol
  · rw [e3]; omega
  · rw [e 4 (by decide) (by decide)]; exact ho.halves
  · rw [e 5 (by decide) (by decide)]; exact ho.crosses
  · rw [e 6 (by decide) (by decide)]; exact ho.move
  · rw [e 7 (by decide) (by decide)]; exact ho.half
  · rw [e 8 (by decide) (by decide)]; exact ho.breath
  · rw [e 9 (by decide) (by decide)]; exact ho.notes
  · rw [e 10 (by decide) (by decide), eH, Nat.pow_succ]; push_cast at hpl hp0 ⊢; omega
  · rw [e 11 (by decide) (by decide)]; exact ho.spent
  · rw [e 12 (by decide) (by decide), e 9 (by decide) (by decide)]; exact ho.place
  · intro k k0 k1
    rw [e3] at k1
    have e1 : wPl (hoS d v w) k = if k = d 3 then v else wPl d k := by
      unfold wPl hoS
      rw [su_ne (by omega), su_ne (by omega)]
      unfold su
      by_cases c : k = d 3
      · rw [if_pos c, if_pos (by omega)]
      · rw [if_neg c, if_neg (by omega)]
    have e2 : wSz (hoS d v w) k = if k = d 3 then w else wSz d k := by
      unfold wSz hoS
      rw [su_ne (by omega)]
      by_cases c : k = d 3
      · rw [if_pos c, show 14 + 2 * (k.toNat : Int) = 14 + 2 * d 3 from by omega, su_eq]
      · rw [if_neg c, su_ne (by omega), su_ne (by omega)]
    rw [e1, e2]
    by_cases c : k = d 3
    · rw [if_pos c, if_pos c]; exact ⟨hv.1, hv.2, hw.1, hw.2⟩
    · rw [if_neg c, if_neg c]; exact ho.hol k k0 (by omega)
  · intro k k0 k1
    rw [e 9 (by decide) (by decide)] at k1
    have b := ho.tune k k0 k1
    unfold wTu at b ⊢
    unfold hoS
    rw [su_ne (by omega), su_ne (by omega), su_ne (by omega)]
    exact b
theorem pl_out {d : Int → Int} {v : Int} (ho : SOK 0 d) (h7 : d 3 < 7) : SOK 0 (su d (13 + 2 * d 3) v) := by
  have h3 := ho.holes
  have e : ∀ k : Int, k < 13 → su d (13 + 2 * d 3) v k = d k := fun k hk => su_ne (by omega)
  have eH : wH (su d (13 + 2 * d 3) v) = wH d := by unfold wH; rw [e 3 (by decide)]
  refine ⟨?_, ?_, ?_, ?_, ?_, ?_, ?_, ?_, ?_, ?_, ?_, ?_, ?_, ?_, ?_⟩
  · rw [e 0 (by decide)]; exact ho.len
  · rw [e 1 (by decide)]; exact ho.bore
  · rw [e 2 (by decide)]; exact ho.tol
  · rw [e 3 (by decide)]; exact ho.holes
  · rw [e 4 (by decide)]; exact ho.halves
  · rw [e 5 (by decide)]; exact ho.crosses
  · rw [e 6 (by decide)]; exact ho.move
  · rw [e 7 (by decide)]; exact ho.half
  · rw [e 8 (by decide)]; exact ho.breath
  · rw [e 9 (by decide)]; exact ho.notes
  · rw [eH, e 10 (by decide)]; exact ho.play
  · rw [e 11 (by decide)]; exact ho.spent
  · rw [e 12 (by decide), e 9 (by decide)]; exact ho.place
  · intro k k0 k1
    rw [e 3 (by decide)] at k1
    have b := ho.hol k k0 k1
    unfold wPl wSz at b ⊢
    rw [su_ne (by omega), su_ne (by omega)]
    exact b
  · intro k k0 k1
    rw [e 9 (by decide)] at k1
    have b := ho.tune k k0 k1
    unfold wTu at b ⊢
    rw [su_ne (by omega)]
    exact b
theorem readHole_ok {N p q : Nat} {st ht : Int} {d : Int → Int} (hT : TX (σ 10) N) (h : PSt σ N st ht (d, p) τ) (h7q : τ 9 7 = (q : Int)) : Fn g zX2_readHole 0 0 [.ref 9] τ l (Ry l (PFt σ N st) (PSt σ N st ht) (rHole (σ 10) N d q p)) := by
  have c1 : CSt τ 11 d := h.c
  have o1 : SOK 0 d := h.s
  have ho3 := o1.holes
  have hln := o1.len
  have pp : ∀ k : Int, 0 ≤ k → k < d 3 → 1 ≤ wPl d k ∧ wPl d k ≤ 600 := fun k a b => ⟨(o1.hol k a b).1, (o1.hol k a b).2.1⟩
  obtain ⟨n3, hn3⟩ : ∃ n3 : Nat, d 3 = (n3 : Int) := ⟨(d 3).toNat, by omega⟩
  refine Fn.of [some (.ref 9), none] rfl (by decide) (Nat.le_of_ble_eq_true rfl) rfl ?_
  refine g_aload0 dX2_readHole_0 ?_
  refine f_getr (r := 11) rfl (by decide) rfl rfl fl_X2_31 dX2_readHole_1 ?_
  refine f_geti (J := 8) rfl (by decide) rfl rfl fl_X2_154 dX2_readHole_4 ?_
  rw [c1.f8]
  refine g_bipush dX2_readHole_7 (by decide) ?_
  refine g_icmp_lt ⟨by omega, by omega⟩ ⟨by decide, by decide⟩ (tgt := 22) dX2_readHole_9 rfl (fun h9 => ?_) (fun h9 => ?_)
  · refine g_aload0 dX2_readHole_22 ?_
    refine f_getr (r := 11) rfl (by decide) rfl rfl fl_X2_31 dX2_readHole_23 ?_
    refine f_geti (J := 8) rfl (by decide) rfl rfl fl_X2_154 dX2_readHole_26 ?_
    rw [c1.f8]
    refine g_if_ne ⟨by omega, by omega⟩ (tgt := 36) dX2_readHole_29 rfl (fun h29 => ?_) (fun h29 => ?_)
    · have hpk := pp (d 3 - 1) (by omega) (by omega)
      refine g_aload0 dX2_readHole_36 ?_
      refine f_getr (r := 11) rfl (by decide) rfl rfl fl_X2_31 dX2_readHole_37 ?_
      refine f_getr (r := 12) rfl (by decide) rfl rfl fl_X2_157 dX2_readHole_40 ?_
      refine g_aload0 dX2_readHole_43 ?_
      refine f_getr (r := 11) rfl (by decide) rfl rfl fl_X2_31 dX2_readHole_44 ?_
      refine f_geti (J := 8) rfl (by decide) rfl rfl fl_X2_154 dX2_readHole_47 ?_
      rw [c1.f8]
      refine g_iconst dX2_readHole_50 ?_
      refine g_isub dX2_readHole_51 ?_
      refine f_cS2w (atI rfl (by decide) (by omega) (by show d 3 - 1 < (7 : Nat); omega)) oY_X5_at oT_X5_at lk_X2_102 rfl dX2_readHole_52 rfl (Or.inl rfl) ?_
      rw [c1.pl _ (by omega) (by omega)]
      refine g_iconst dX2_readHole_55 ?_
      refine g_iadd dX2_readHole_56 ?_
      have hlor : 1 ≤ (if d 3 = 0 then 1 else wPl d (d 3 - 1) + 1) ∧ (if d 3 = 0 then 1 else wPl d (d 3 - 1) + 1) ≤ 601 := by
        split
        · exact ⟨by decide, by decide⟩
        · have := pp (d 3 - 1) (by omega) (by omega); omega
      have hlo1 := hlor.1
      have hlo : R32 (if d 3 = 0 then 1 else wPl d (d 3 - 1) + 1) := ⟨by omega, by omega⟩
      have hhi : R32 (d 0 - 1) := ⟨by omega, by omega⟩
      first
        | rw [show iv 1 = iv (if d 3 = 0 then 1 else wPl d (d 3 - 1) + 1) from by rw [if_pos h29]]
        | rw [show wPl d (d 3 - 1) + 1 = (if d 3 = 0 then 1 else wPl d (d 3 - 1) + 1) from (if_neg h29).symm]
      refine g_istore1 dX2_readHole_57 rfl (by decide) ?_
      refine g_aload0 dX2_readHole_58 ?_
      refine g_iload1 dX2_readHole_59 ?_
      refine g_aload0 dX2_readHole_60 ?_
      refine f_getr (r := 11) rfl (by decide) rfl rfl fl_X2_31 dX2_readHole_61 ?_
      refine f_geti (J := 0) rfl (by decide) rfl rfl fl_X2_126 dX2_readHole_64 ?_
      rw [c1.f0]
      refine g_iconst dX2_readHole_67 ?_
      refine g_isub dX2_readHole_68 ?_
      refine f_cV2n (readNumber_ok hT h.len h.txt h.pos h.le hlo hhi) rfl (by decide) rfl oY_X2_readNumber oI_X2_readNumber lk_X2_123 rfl dX2_readHole_69 (Nat.zero_le _) (Nat.zero_le _) rfl (Or.inl rfl) (fun v69 σ69 l69 h69 => ?_) (fun e69 σ69 l69 h69 => ?_)
      · obtain ⟨e69, y69⟩ := Rz.split h69
        subst e69
        rcases y69 with ⟨k69, pl69, r69, rfl, n69⟩ | ⟨w69, q69, r69, rfl, n69⟩
        · show GW g _ _ _ _ _ _ (iv 0 :: _) _
          refine g_if_ne ⟨by decide, by decide⟩ (tgt := 77) dX2_readHole_72 rfl (fun h72 => absurd h72 (by decide)) (fun h72 => ?_)
          refine g_iconst dX2_readHole_75 ?_
          refine g_iretB (Or.inl rfl) rfl dX2_readHole_76 ?_
          exact Ry.no (by unfold rHole; rw [if_neg (by omega)]; simp only [r69]) (h.numF n69)
        · show GW g _ _ _ _ _ _ (iv 1 :: _) _
          obtain ⟨Q69, x69, a69, b69⟩ := h.num n69 r69
          refine g_if_ne ⟨by decide, by decide⟩ (tgt := 77) dX2_readHole_72 rfl (fun h72 => ?_) (fun h72 => absurd h72 (by decide))
          have hS1 : CSt (up σ69 12 (d 3) w69) 11 (su d (13 + 2 * d 3) w69) := by
            have := Q69.c.pa (v := w69) (k := n3) (by omega)
            rw [← hn3] at this
            exact this
          have hS2 : SOK 0 (su d (13 + 2 * d 3) w69) := pl_out Q69.s (by omega)
          refine g_aload0 dX2_readHole_77 ?_
          refine f_getr (r := 11) rfl (by decide) rfl rfl fl_X2_31 dX2_readHole_78 ?_
          refine f_getr (r := 12) rfl (by decide) rfl rfl fl_X2_157 dX2_readHole_81 ?_
          refine g_aload0 dX2_readHole_84 ?_
          refine f_getr (r := 11) rfl (by decide) rfl rfl fl_X2_31 dX2_readHole_85 ?_
          refine f_geti (J := 8) rfl (by decide) rfl rfl fl_X2_154 dX2_readHole_88 ?_
          rw [Q69.c.f8]
          refine g_aload0 dX2_readHole_91 ?_
          refine f_geti (J := 8) rfl (by decide) rfl rfl fl_X2_41 dX2_readHole_92 ?_
          rw [x69]
          refine f_cS3d (putI rfl (by decide) (by omega) (by show d 3 < (7 : Nat); omega)) oY_X5_put oT_X5_put lk_X2_56 rfl dX2_readHole_95 rfl (Or.inl rfl) ?_
          have S1 := Q69.set (d' := su d (13 + 2 * d 3) w69) (fun a ha => up_n (by omega)) hS1 hS2
          refine g_aload0 dX2_readHole_98 ?_
          refine g_iconst dX2_readHole_99 ?_
          refine g_bipush dX2_readHole_100 (by decide) ?_
          refine f_cV2n (readNumber_ok hT S1.len S1.txt S1.pos S1.le ⟨by decide, by decide⟩ ⟨by decide, by decide⟩) rfl (by decide) rfl oY_X2_readNumber oI_X2_readNumber lk_X2_123 rfl dX2_readHole_102 (Nat.zero_le _) (Nat.zero_le _) rfl (Or.inl rfl) (fun v102 σ102 l102 h102 => ?_) (fun e102 σ102 l102 h102 => ?_)
          · obtain ⟨e102, y102⟩ := Rz.split h102
            subst e102
            rcases y102 with ⟨k102, pl102, r102, rfl, n102⟩ | ⟨w102, q102, r102, rfl, n102⟩
            · show GW g _ _ _ _ _ _ (iv 0 :: _) _
              refine g_if_ne ⟨by decide, by decide⟩ (tgt := 110) dX2_readHole_105 rfl (fun h105 => absurd h105 (by decide)) (fun h105 => ?_)
              refine g_iconst dX2_readHole_108 ?_
              refine g_iretB (Or.inl rfl) rfl dX2_readHole_109 ?_
              exact Ry.no (by unfold rHole; rw [if_neg (by omega)]; simp only [r69, r102]) (S1.numF n102)
            · show GW g _ _ _ _ _ _ (iv 1 :: _) _
              obtain ⟨Q102, x102, a102, b102⟩ := S1.num n102 r102
              refine g_if_ne ⟨by decide, by decide⟩ (tgt := 110) dX2_readHole_105 rfl (fun h105 => ?_) (fun h105 => absurd h105 (by decide))
              refine g_aload0 dX2_readHole_110 ?_
              refine f_getr (r := 11) rfl (by decide) rfl rfl fl_X2_31 dX2_readHole_111 ?_
              refine f_getr (r := 13) rfl (by decide) rfl rfl fl_X2_160 dX2_readHole_114 ?_
              refine g_aload0 dX2_readHole_117 ?_
              refine f_getr (r := 11) rfl (by decide) rfl rfl fl_X2_31 dX2_readHole_118 ?_
              refine f_geti (J := 8) rfl (by decide) rfl rfl fl_X2_154 dX2_readHole_121 ?_
              rw [Q102.c.f8, su_ne (by omega)]
              refine g_aload0 dX2_readHole_124 ?_
              refine f_geti (J := 8) rfl (by decide) rfl rfl fl_X2_41 dX2_readHole_125 ?_
              rw [x102]
              refine f_cS3d (putI rfl (by decide) (by omega) (by show d 3 < (7 : Nat); omega)) oY_X5_put oT_X5_put lk_X2_56 rfl dX2_readHole_128 rfl (Or.inl rfl) ?_
              refine g_aload0 dX2_readHole_131 ?_
              refine f_getr (r := 11) rfl (by decide) rfl rfl fl_X2_31 dX2_readHole_132 ?_
              refine g_dup rfl dX2_readHole_135 ?_
              refine f_geti (J := 8) rfl (by decide) rfl rfl fl_X2_154 dX2_readHole_136 ?_
              rw [up_n (by decide), Q102.c.f8, su_ne (by omega)]
              refine g_iconst dX2_readHole_139 ?_
              refine g_iadd dX2_readHole_140 ?_
              refine f_puti (J := 8) rfl (by decide) rfl rfl fl_X2_154 rfl (fun _ _ _ h => by cases h; rfl) dX2_readHole_141 ?_
              refine g_iconst dX2_readHole_144 ?_
              refine g_iretB (Or.inr rfl) rfl dX2_readHole_145 ?_
              have e12 : σ102 12 (d 3) = w69 := by rw [n102.1.1 12 (by decide), up_eq]
              have c3 : CSt (up σ102 13 (d 3) w102) 11 (su (su d (13 + 2 * d 3) w69) (14 + 2 * d 3) w102) := by
                have := Q102.c.za (v := w102) (k := n3) (by omega)
                rw [← hn3] at this
                exact this
              have e3 : su (su d (13 + 2 * d 3) w69) (14 + 2 * d 3) w102 3 = d 3 := by rw [su_ne (by omega), su_ne (by omega)]
              have c4 := c3.u3 (by rw [e3]; omega) (by rw [e3, up_n (by decide), e12]; unfold wPl; rw [su_ne (by omega), show 13 + 2 * ((d 3).toNat : Int) = 13 + 2 * d 3 from by omega, su_eq]) (by rw [e3, up_eq]; unfold wSz; rw [show 14 + 2 * ((d 3).toNat : Int) = 14 + 2 * d 3 from by omega, su_eq])
              rw [e3] at c4
              exact Ry.yes (by unfold rHole; rw [if_neg (by omega)]; simp only [r69, r102]; rfl) (Q102.set (d' := hoS d w69 w102) (fun a ha => by rw [up_n (by omega), up_n (by omega)]) c4 (hoS_ok o1 (by omega) ⟨by omega, by omega⟩ ⟨a102, b102⟩))
          · exact (Rz.nx h102).elim
      · exact (Rz.nx h69).elim
    · refine g_iconst dX2_readHole_32 ?_
      refine g_goto (tgt := 57) dX2_readHole_33 rfl ?_
      have hlor : 1 ≤ (if d 3 = 0 then 1 else wPl d (d 3 - 1) + 1) ∧ (if d 3 = 0 then 1 else wPl d (d 3 - 1) + 1) ≤ 601 := by
        split
        · exact ⟨by decide, by decide⟩
        · have := pp (d 3 - 1) (by omega) (by omega); omega
      have hlo1 := hlor.1
      have hlo : R32 (if d 3 = 0 then 1 else wPl d (d 3 - 1) + 1) := ⟨by omega, by omega⟩
      have hhi : R32 (d 0 - 1) := ⟨by omega, by omega⟩
      first
        | rw [show iv 1 = iv (if d 3 = 0 then 1 else wPl d (d 3 - 1) + 1) from by rw [if_pos h29]]
        | rw [show wPl d (d 3 - 1) + 1 = (if d 3 = 0 then 1 else wPl d (d 3 - 1) + 1) from (if_neg h29).symm]
      refine g_istore1 dX2_readHole_57 rfl (by decide) ?_
      refine g_aload0 dX2_readHole_58 ?_
      refine g_iload1 dX2_readHole_59 ?_
      refine g_aload0 dX2_readHole_60 ?_
      refine f_getr (r := 11) rfl (by decide) rfl rfl fl_X2_31 dX2_readHole_61 ?_
      refine f_geti (J := 0) rfl (by decide) rfl rfl fl_X2_126 dX2_readHole_64 ?_
      rw [c1.f0]
      refine g_iconst dX2_readHole_67 ?_
      refine g_isub dX2_readHole_68 ?_
      refine f_cV2n (readNumber_ok hT h.len h.txt h.pos h.le hlo hhi) rfl (by decide) rfl oY_X2_readNumber oI_X2_readNumber lk_X2_123 rfl dX2_readHole_69 (Nat.zero_le _) (Nat.zero_le _) rfl (Or.inl rfl) (fun v69 σ69 l69 h69 => ?_) (fun e69 σ69 l69 h69 => ?_)
      · obtain ⟨e69, y69⟩ := Rz.split h69
        subst e69
        rcases y69 with ⟨k69, pl69, r69, rfl, n69⟩ | ⟨w69, q69, r69, rfl, n69⟩
        · show GW g _ _ _ _ _ _ (iv 0 :: _) _
          refine g_if_ne ⟨by decide, by decide⟩ (tgt := 77) dX2_readHole_72 rfl (fun h72 => absurd h72 (by decide)) (fun h72 => ?_)
          refine g_iconst dX2_readHole_75 ?_
          refine g_iretB (Or.inl rfl) rfl dX2_readHole_76 ?_
          exact Ry.no (by unfold rHole; rw [if_neg (by omega)]; simp only [r69]) (h.numF n69)
        · show GW g _ _ _ _ _ _ (iv 1 :: _) _
          obtain ⟨Q69, x69, a69, b69⟩ := h.num n69 r69
          refine g_if_ne ⟨by decide, by decide⟩ (tgt := 77) dX2_readHole_72 rfl (fun h72 => ?_) (fun h72 => absurd h72 (by decide))
          have hS1 : CSt (up σ69 12 (d 3) w69) 11 (su d (13 + 2 * d 3) w69) := by
            have := Q69.c.pa (v := w69) (k := n3) (by omega)
            rw [← hn3] at this
            exact this
          have hS2 : SOK 0 (su d (13 + 2 * d 3) w69) := pl_out Q69.s (by omega)
          refine g_aload0 dX2_readHole_77 ?_
          refine f_getr (r := 11) rfl (by decide) rfl rfl fl_X2_31 dX2_readHole_78 ?_
          refine f_getr (r := 12) rfl (by decide) rfl rfl fl_X2_157 dX2_readHole_81 ?_
          refine g_aload0 dX2_readHole_84 ?_
          refine f_getr (r := 11) rfl (by decide) rfl rfl fl_X2_31 dX2_readHole_85 ?_
          refine f_geti (J := 8) rfl (by decide) rfl rfl fl_X2_154 dX2_readHole_88 ?_
          rw [Q69.c.f8]
          refine g_aload0 dX2_readHole_91 ?_
          refine f_geti (J := 8) rfl (by decide) rfl rfl fl_X2_41 dX2_readHole_92 ?_
          rw [x69]
          refine f_cS3d (putI rfl (by decide) (by omega) (by show d 3 < (7 : Nat); omega)) oY_X5_put oT_X5_put lk_X2_56 rfl dX2_readHole_95 rfl (Or.inl rfl) ?_
          have S1 := Q69.set (d' := su d (13 + 2 * d 3) w69) (fun a ha => up_n (by omega)) hS1 hS2
          refine g_aload0 dX2_readHole_98 ?_
          refine g_iconst dX2_readHole_99 ?_
          refine g_bipush dX2_readHole_100 (by decide) ?_
          refine f_cV2n (readNumber_ok hT S1.len S1.txt S1.pos S1.le ⟨by decide, by decide⟩ ⟨by decide, by decide⟩) rfl (by decide) rfl oY_X2_readNumber oI_X2_readNumber lk_X2_123 rfl dX2_readHole_102 (Nat.zero_le _) (Nat.zero_le _) rfl (Or.inl rfl) (fun v102 σ102 l102 h102 => ?_) (fun e102 σ102 l102 h102 => ?_)
          · obtain ⟨e102, y102⟩ := Rz.split h102
            subst e102
            rcases y102 with ⟨k102, pl102, r102, rfl, n102⟩ | ⟨w102, q102, r102, rfl, n102⟩
            · show GW g _ _ _ _ _ _ (iv 0 :: _) _
              refine g_if_ne ⟨by decide, by decide⟩ (tgt := 110) dX2_readHole_105 rfl (fun h105 => absurd h105 (by decide)) (fun h105 => ?_)
              refine g_iconst dX2_readHole_108 ?_
              refine g_iretB (Or.inl rfl) rfl dX2_readHole_109 ?_
              exact Ry.no (by unfold rHole; rw [if_neg (by omega)]; simp only [r69, r102]) (S1.numF n102)
            · show GW g _ _ _ _ _ _ (iv 1 :: _) _
              obtain ⟨Q102, x102, a102, b102⟩ := S1.num n102 r102
              refine g_if_ne ⟨by decide, by decide⟩ (tgt := 110) dX2_readHole_105 rfl (fun h105 => ?_) (fun h105 => absurd h105 (by decide))
              refine g_aload0 dX2_readHole_110 ?_
              refine f_getr (r := 11) rfl (by decide) rfl rfl fl_X2_31 dX2_readHole_111 ?_
              refine f_getr (r := 13) rfl (by decide) rfl rfl fl_X2_160 dX2_readHole_114 ?_
              refine g_aload0 dX2_readHole_117 ?_
              refine f_getr (r := 11) rfl (by decide) rfl rfl fl_X2_31 dX2_readHole_118 ?_
              refine f_geti (J := 8) rfl (by decide) rfl rfl fl_X2_154 dX2_readHole_121 ?_
              rw [Q102.c.f8, su_ne (by omega)]
              refine g_aload0 dX2_readHole_124 ?_
              refine f_geti (J := 8) rfl (by decide) rfl rfl fl_X2_41 dX2_readHole_125 ?_
              rw [x102]
              refine f_cS3d (putI rfl (by decide) (by omega) (by show d 3 < (7 : Nat); omega)) oY_X5_put oT_X5_put lk_X2_56 rfl dX2_readHole_128 rfl (Or.inl rfl) ?_
              refine g_aload0 dX2_readHole_131 ?_
              refine f_getr (r := 11) rfl (by decide) rfl rfl fl_X2_31 dX2_readHole_132 ?_
              refine g_dup rfl dX2_readHole_135 ?_
              refine f_geti (J := 8) rfl (by decide) rfl rfl fl_X2_154 dX2_readHole_136 ?_
              rw [up_n (by decide), Q102.c.f8, su_ne (by omega)]
              refine g_iconst dX2_readHole_139 ?_
              refine g_iadd dX2_readHole_140 ?_
              refine f_puti (J := 8) rfl (by decide) rfl rfl fl_X2_154 rfl (fun _ _ _ h => by cases h; rfl) dX2_readHole_141 ?_
              refine g_iconst dX2_readHole_144 ?_
              refine g_iretB (Or.inr rfl) rfl dX2_readHole_145 ?_
              have e12 : σ102 12 (d 3) = w69 := by rw [n102.1.1 12 (by decide), up_eq]
              have c3 : CSt (up σ102 13 (d 3) w102) 11 (su (su d (13 + 2 * d 3) w69) (14 + 2 * d 3) w102) := by
                have := Q102.c.za (v := w102) (k := n3) (by omega)
                rw [← hn3] at this
                exact this
              have e3 : su (su d (13 + 2 * d 3) w69) (14 + 2 * d 3) w102 3 = d 3 := by rw [su_ne (by omega), su_ne (by omega)]
              have c4 := c3.u3 (by rw [e3]; omega) (by rw [e3, up_n (by decide), e12]; unfold wPl; rw [su_ne (by omega), show 13 + 2 * ((d 3).toNat : Int) = 13 + 2 * d 3 from by omega, su_eq]) (by rw [e3, up_eq]; unfold wSz; rw [show 14 + 2 * ((d 3).toNat : Int) = 14 + 2 * d 3 from by omega, su_eq])
              rw [e3] at c4
              exact Ry.yes (by unfold rHole; rw [if_neg (by omega)]; simp only [r69, r102]; rfl) (Q102.set (d' := hoS d w69 w102) (fun a ha => by rw [up_n (by omega), up_n (by omega)]) c4 (hoS_ok o1 (by omega) ⟨by omega, by omega⟩ ⟨a102, b102⟩))
          · exact (Rz.nx h102).elim
      · exact (Rz.nx h69).elim
  · refine g_aload0 dX2_readHole_12 ?_
    refine g_iconst dX2_readHole_13 ?_
    refine g_aload0 dX2_readHole_14 ?_
    refine f_geti (J := 7) rfl (by decide) rfl rfl fl_X2_38 dX2_readHole_15 ?_
    rw [h7q]
    refine f_cV2x (fail_ok) rfl (by decide) rfl oY_X2_fail oI_X2_fail lk_X2_89 rfl dX2_readHole_18 rfl (Or.inl rfl) ?_
    refine g_iretB (Or.inl rfl) rfl dX2_readHole_21 ?_
    exact Ry.no (by unfold rHole; rw [if_pos h9]) (h.fail n9_fail (by rw [up_ne (by decide), up_eq]) up_eq)
end C61
