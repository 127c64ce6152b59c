/-! Calls over the flat memory. -/
section GC13
def Fi (g : gT) (y : yT) (k n : Nat) (as : List Value) (σ : sT) (l : Nat → Nat) (R : Int → sT → (Nat → Nat) → Prop) : Prop := Fn g y k n as σ l (fun o σ' l' => ∃ x, o = .inl (some (iv x)) ∧ R x σ' l')
def Fu (g : gT) (y : yT) (k n : Nat) (as : List Value) (σ : sT) (l : Nat → Nat) (R : sT → (Nat → Nat) → Prop) : Prop := Fn g y k n as σ l (fun o σ' l' => o = .inl none ∧ R σ' l')
def FO (g : gT) (y : yT) (as : List Value) (σ : sT) (l : Nat → Nat) (τ : sT) : Prop := Fn g y 0 0 as σ l (fun o σ' l' => o = .inl none ∧ σ' = τ ∧ l' = l)
def FX (g : gT) (y : yT) (as : List Value) (σ : sT) (l : Nat → Nat) (v : Value) (τ : sT) : Prop := Fn g y 0 0 as σ l (fun o σ' l' => o = .inl (some v) ∧ σ' = τ ∧ l' = l)
def okVb : Value → Bool
  | .ref n => (decide (n < 110) || decide (KB ≤ n)) && (ownr n).isNone
  | _ => true
def okSb : List Value → Bool
  | [] => true
  | v :: t => okVb v && okSb t
def okLb : List (Option Value) → Bool
  | [] => true
  | some v :: t => okVb v && okLb t
  | none :: t => okLb t
theorem okVb_of {v : Value} (h : okVb v = true) : okV 110 v := by
  cases v <;> try trivial
  simp only [okVb, Bool.and_eq_true, Bool.or_eq_true, decide_eq_true_eq, Option.isNone_iff_eq_none] at h
  exact h
theorem okSb_of : ∀ {st : List Value}, okSb st = true → okS 110 st := by
  intro st
  induction st with
  | nil => intro _; trivial
  | cons v t ih =>
    intro h
    simp only [okSb, Bool.and_eq_true] at h
    exact ⟨okVb_of h.1, ih h.2⟩
theorem okLb_of : ∀ {L : List (Option Value)}, okLb L = true → okL 110 L := by
  intro L
  induction L with
  | nil => intro _; trivial
  | cons v t ih =>
    intro h
    cases v with
    | none => exact ⟨trivial, ih h⟩
    | some v =>
      simp only [okLb, Bool.and_eq_true] at h
      exact ⟨okVb_of h.1, ih h.2⟩
def okFb (y2 : yT) (L : List (Option Value)) (st : List Value) : Bool := (yK y2 == 0) || (okLb L && okSb st)
theorem okFb_of {y2 : yT} {L : List (Option Value)} {st : List Value} (h : okFb y2 L st = true) : okF y2 110 L st := by
  simp only [okFb, Bool.or_eq_true, Bool.and_eq_true, beq_iff_eq] at h
  exact h.elim Or.inl (fun q => Or.inr ⟨okLb_of q.1, okSb_of q.2⟩)
theorem okF_len {y2 : yT} {L : List (Option Value)} {st : List Value} {σ : sT} {l : Nat → Nat} (h : okF y2 110 L st) : okF y2 (mem σ l).length L st := by rw [mem_len]; exact h
variable {g : gT} {y : yT} {k n : Nat} {Φ : mO → mM → Prop} {pc : Nat} {L : List (Option Value)} {st : List Value} {σ : sT} {l : Nat → Nat}
theorem f_callV {y2 : yT} {idx k2 n2 b ci : Nat} {As : List Value} {Ψ : mO → sT → (Nat → Nat) → Prop} (hR : Fn g y2 k2 n2 (.ref b :: As) σ l Ψ) (hk : kd b = ci + 10) (hb : b < 110) (hci : (CL[ci]?).map (·.1) = some (yN y2).cls) (hy : okY y2 As.length) (hI : okI y2) (hlk : LK (yN y).cls idx (yN y2)) (hF : fitY y y2 = true) (hd : decode (yB y) pc = .ok (.invokevirtual idx, 3)) (hk2 : k2 ≤ k) (hn2 : n2 ≤ n) (hcat : Nat.ble ((st.map fun v => v.category).sum) 8 = true) (hok : okF y2 110 L st)
    (kr : ∀ v σ' l', Ψ (.inl v) σ' l' → GW g y (k - k2) (n - n2) Φ (pc + 3) L (v.toList ++ st) (mem σ' l'))
    (kx : ∀ e σ' l', Ψ (.inr e) σ' l' → yH y = [] ∧ Φ (.inr e) (mem σ' l')) : GW g y k n Φ pc L (As.reverse ++ .ref b :: st) (mem σ l) :=
  g_callV hR ((mem_get hb).trans (congrArg some (cell_obj hk))) hci hy hI hlk hF hd hk2 hn2 (Nat.le_of_ble_eq_true hcat) (okF_len hok) (fun v M' ⟨σ', l', e, h⟩ => by subst e; exact kr v σ' l' h) (fun e9 M' ⟨σ', l', e, h⟩ => by subst e; exact kx e9 σ' l' h)
theorem f_callS {y2 : yT} {idx k2 n2 : Nat} {As : List Value} {Ψ : mO → sT → (Nat → Nat) → Prop} (hR : Fn g y2 k2 n2 As σ l Ψ) (hy : okY y2 As.length) (hI : okT y2) (hlk : LK (yN y).cls idx (yN y2)) (hF : fitY y y2 = true) (hd : decode (yB y) pc = .ok (.invokestatic idx, 3)) (hk2 : k2 ≤ k) (hn2 : n2 ≤ n) (hcat : Nat.ble ((st.map fun v => v.category).sum) 8 = true) (hok : okF y2 110 L st)
    (kr : ∀ v σ' l', Ψ (.inl v) σ' l' → GW g y (k - k2) (n - n2) Φ (pc + 3) L (v.toList ++ st) (mem σ' l'))
    (kx : ∀ e σ' l', Ψ (.inr e) σ' l' → yH y = [] ∧ Φ (.inr e) (mem σ' l')) : GW g y k n Φ pc L (As.reverse ++ st) (mem σ l) :=
  g_callS hR hy hI hlk hF hd hk2 hn2 (Nat.le_of_ble_eq_true hcat) (okF_len hok) (fun v M' ⟨σ', l', e, h⟩ => by subst e; exact kr v σ' l' h) (fun e9 M' ⟨σ', l', e, h⟩ => by subst e; exact kx e9 σ' l' h)

theorem f_cV0n {y2 : yT} {idx k2 n2 b ci : Nat} {Ψ : mO → sT → (Nat → Nat) → Prop} (hR : Fn g y2 k2 n2 (.ref b :: []) σ l Ψ) (hk : kd b = ci + 10) (hb : b < 110) (hci : (CL[ci]?).map (·.1) = some (yN y2).cls) (hy : okY y2 0) (hI : okI y2) (hlk : LK (yN y).cls idx (yN y2)) (hF : fitY y y2 = true) (hd : decode (yB y) pc = .ok (.invokevirtual idx, 3)) (hk2 : k2 ≤ k) (hn2 : n2 ≤ n) (hcat : Nat.ble ((st.map fun v => v.category).sum) 8 = true) (hok : okF y2 110 L st) 
    (kr : ∀ v σ' l', Ψ (.inl v) σ' l' → GW g y (k - k2) (n - n2) Φ (pc + 3) L (v.toList ++ st) (mem σ' l'))
    (kx : ∀ e σ' l', Ψ (.inr e) σ' l' → yH y = [] ∧ Φ (.inr e) (mem σ' l')) : GW g y k n Φ pc L (.ref b :: st) (mem σ l) :=
  f_callV (As := []) hR hk hb hci hy hI hlk hF hd hk2 hn2 hcat hok kr kx
theorem f_cV0i {y2 : yT} {idx k2 n2 b ci : Nat} {R : Int → sT → (Nat → Nat) → Prop} (hR : Fi g y2 k2 n2 (.ref b :: []) σ l R) (hk : kd b = ci + 10) (hb : b < 110) (hci : (CL[ci]?).map (·.1) = some (yN y2).cls) (hy : okY y2 0) (hI : okI y2) (hlk : LK (yN y).cls idx (yN y2)) (hF : fitY y y2 = true) (hd : decode (yB y) pc = .ok (.invokevirtual idx, 3)) (hk2 : k2 ≤ k) (hn2 : n2 ≤ n) (hcat : Nat.ble ((st.map fun v => v.category).sum) 8 = true) (hok : okF y2 110 L st) 
    (kr : ∀ x σ' l', R x σ' l' → GW g y (k - k2) (n - n2) Φ (pc + 3) L (iv x :: st) (mem σ' l')) : GW g y k n Φ pc L (.ref b :: st) (mem σ l) :=
  f_cV0n hR hk hb hci hy hI hlk hF hd hk2 hn2 hcat hok (fun v σ' l' ⟨x, e, h⟩ => by cases e; exact kr x σ' l' h) (fun e9 σ' l' ⟨x, e, h⟩ => by cases e)
theorem f_cV0m {y2 : yT} {idx k2 n2 b ci : Nat} {R : sT → (Nat → Nat) → Prop} (hR : Fu g y2 k2 n2 (.ref b :: []) σ l R) (hk : kd b = ci + 10) (hb : b < 110) (hci : (CL[ci]?).map (·.1) = some (yN y2).cls) (hy : okY y2 0) (hI : okI y2) (hlk : LK (yN y).cls idx (yN y2)) (hF : fitY y y2 = true) (hd : decode (yB y) pc = .ok (.invokevirtual idx, 3)) (hk2 : k2 ≤ k) (hn2 : n2 ≤ n) (hcat : Nat.ble ((st.map fun v => v.category).sum) 8 = true) (hok : okF y2 110 L st) 
    (kr : ∀ σ' l', R σ' l' → GW g y (k - k2) (n - n2) Φ (pc + 3) L st (mem σ' l')) : GW g y k n Φ pc L (.ref b :: st) (mem σ l) :=
  f_cV0n hR hk hb hci hy hI hlk hF hd hk2 hn2 hcat hok (fun v σ' l' ⟨e, h⟩ => by cases e; exact kr σ' l' h) (fun e9 σ' l' ⟨e, h⟩ => by cases e)
theorem f_cV0d {y2 : yT} {idx b ci : Nat} {τ : sT} (hR : FO g y2 (.ref b :: []) σ l τ) (hk : kd b = ci + 10) (hb : b < 110) (hci : (CL[ci]?).map (·.1) = some (yN y2).cls) (hy : okY y2 0) (hI : okI y2) (hlk : LK (yN y).cls idx (yN y2)) (hF : fitY y y2 = true) (hd : decode (yB y) pc = .ok (.invokevirtual idx, 3)) (hcat : Nat.ble ((st.map fun v => v.category).sum) 8 = true) (hok : okF y2 110 L st) 
    (kr : GW g y k n Φ (pc + 3) L st (mem τ l)) : GW g y k n Φ pc L (.ref b :: st) (mem σ l) :=
  f_cV0n (k2 := 0) (n2 := 0) hR hk hb hci hy hI hlk hF hd (Nat.zero_le _) (Nat.zero_le _) hcat hok (fun v' σ' l' ⟨e, h1, h2⟩ => by cases e; subst h1; subst h2; exact kr) (fun e9 σ' l' ⟨e, h⟩ => by cases e)
theorem f_cV0x {y2 : yT} {idx b ci : Nat} {v : Value} {τ : sT} (hR : FX g y2 (.ref b :: []) σ l v τ) (hk : kd b = ci + 10) (hb : b < 110) (hci : (CL[ci]?).map (·.1) = some (yN y2).cls) (hy : okY y2 0) (hI : okI y2) (hlk : LK (yN y).cls idx (yN y2)) (hF : fitY y y2 = true) (hd : decode (yB y) pc = .ok (.invokevirtual idx, 3)) (hcat : Nat.ble ((st.map fun v => v.category).sum) 8 = true) (hok : okF y2 110 L st) 
    (kr : GW g y k n Φ (pc + 3) L (v :: st) (mem τ l)) : GW g y k n Φ pc L (.ref b :: st) (mem σ l) :=
  f_cV0n (k2 := 0) (n2 := 0) hR hk hb hci hy hI hlk hF hd (Nat.zero_le _) (Nat.zero_le _) hcat hok (fun v' σ' l' ⟨e, h1, h2⟩ => by cases e; subst h1; subst h2; exact kr) (fun e9 σ' l' ⟨e, h⟩ => by cases e)
theorem f_cV0w {y2 : yT} {idx b ci : Nat} {v : Value} (hR : Fw g y2 (.ref b :: []) σ l v) (hk : kd b = ci + 10) (hb : b < 110) (hci : (CL[ci]?).map (·.1) = some (yN y2).cls) (hy : okY y2 0) (hI : okI y2) (hlk : LK (yN y).cls idx (yN y2)) (hF : fitY y y2 = true) (hd : decode (yB y) pc = .ok (.invokevirtual idx, 3)) (hcat : Nat.ble ((st.map fun v => v.category).sum) 8 = true) (hok : okF y2 110 L st) 
    (kr : GW g y k n Φ (pc + 3) L (v :: st) (mem σ l)) : GW g y k n Φ pc L (.ref b :: st) (mem σ l) :=
  f_cV0n (k2 := 0) (n2 := 0) hR hk hb hci hy hI hlk hF hd (Nat.zero_le _) (Nat.zero_le _) hcat hok (fun v' σ' l' ⟨e, h1, h2⟩ => by cases e; subst h1; subst h2; exact kr) (fun e9 σ' l' ⟨e, h⟩ => by cases e)

theorem f_cS0n {y2 : yT} {idx k2 n2 : Nat} {Ψ : mO → sT → (Nat → Nat) → Prop} (hR : Fn g y2 k2 n2 [] σ l Ψ) (hy : okY y2 0) (hI : okT y2) (hlk : LK (yN y).cls idx (yN y2)) (hF : fitY y y2 = true) (hd : decode (yB y) pc = .ok (.invokestatic idx, 3)) (hk2 : k2 ≤ k) (hn2 : n2 ≤ n) (hcat : Nat.ble ((st.map fun v => v.category).sum) 8 = true) (hok : okF y2 110 L st) 
    (kr : ∀ v σ' l', Ψ (.inl v) σ' l' → GW g y (k - k2) (n - n2) Φ (pc + 3) L (v.toList ++ st) (mem σ' l'))
    (kx : ∀ e σ' l', Ψ (.inr e) σ' l' → yH y = [] ∧ Φ (.inr e) (mem σ' l')) : GW g y k n Φ pc L st (mem σ l) :=
  f_callS (As := []) hR hy hI hlk hF hd hk2 hn2 hcat hok kr kx
theorem f_cS0i {y2 : yT} {idx k2 n2 : Nat} {R : Int → sT → (Nat → Nat) → Prop} (hR : Fi g y2 k2 n2 [] σ l R) (hy : okY y2 0) (hI : okT y2) (hlk : LK (yN y).cls idx (yN y2)) (hF : fitY y y2 = true) (hd : decode (yB y) pc = .ok (.invokestatic idx, 3)) (hk2 : k2 ≤ k) (hn2 : n2 ≤ n) (hcat : Nat.ble ((st.map fun v => v.category).sum) 8 = true) (hok : okF y2 110 L st) 
    (kr : ∀ x σ' l', R x σ' l' → GW g y (k - k2) (n - n2) Φ (pc + 3) L (iv x :: st) (mem σ' l')) : GW g y k n Φ pc L st (mem σ l) :=
  f_cS0n hR hy hI hlk hF hd hk2 hn2 hcat hok (fun v σ' l' ⟨x, e, h⟩ => by cases e; exact kr x σ' l' h) (fun e9 σ' l' ⟨x, e, h⟩ => by cases e)
theorem f_cS0m {y2 : yT} {idx k2 n2 : Nat} {R : sT → (Nat → Nat) → Prop} (hR : Fu g y2 k2 n2 [] σ l R) (hy : okY y2 0) (hI : okT y2) (hlk : LK (yN y).cls idx (yN y2)) (hF : fitY y y2 = true) (hd : decode (yB y) pc = .ok (.invokestatic idx, 3)) (hk2 : k2 ≤ k) (hn2 : n2 ≤ n) (hcat : Nat.ble ((st.map fun v => v.category).sum) 8 = true) (hok : okF y2 110 L st) 
    (kr : ∀ σ' l', R σ' l' → GW g y (k - k2) (n - n2) Φ (pc + 3) L st (mem σ' l')) : GW g y k n Φ pc L st (mem σ l) :=
  f_cS0n hR hy hI hlk hF hd hk2 hn2 hcat hok (fun v σ' l' ⟨e, h⟩ => by cases e; exact kr σ' l' h) (fun e9 σ' l' ⟨e, h⟩ => by cases e)
theorem f_cS0d {y2 : yT} {idx : Nat} {τ : sT} (hR : FO g y2 [] σ l τ) (hy : okY y2 0) (hI : okT y2) (hlk : LK (yN y).cls idx (yN y2)) (hF : fitY y y2 = true) (hd : decode (yB y) pc = .ok (.invokestatic idx, 3)) (hcat : Nat.ble ((st.map fun v => v.category).sum) 8 = true) (hok : okF y2 110 L st) 
    (kr : GW g y k n Φ (pc + 3) L st (mem τ l)) : GW g y k n Φ pc L st (mem σ l) :=
  f_cS0n (k2 := 0) (n2 := 0) hR hy hI hlk hF hd (Nat.zero_le _) (Nat.zero_le _) hcat hok (fun v' σ' l' ⟨e, h1, h2⟩ => by cases e; subst h1; subst h2; exact kr) (fun e9 σ' l' ⟨e, h⟩ => by cases e)
theorem f_cS0x {y2 : yT} {idx : Nat} {v : Value} {τ : sT} (hR : FX g y2 [] σ l v τ) (hy : okY y2 0) (hI : okT y2) (hlk : LK (yN y).cls idx (yN y2)) (hF : fitY y y2 = true) (hd : decode (yB y) pc = .ok (.invokestatic idx, 3)) (hcat : Nat.ble ((st.map fun v => v.category).sum) 8 = true) (hok : okF y2 110 L st) 
    (kr : GW g y k n Φ (pc + 3) L (v :: st) (mem τ l)) : GW g y k n Φ pc L st (mem σ l) :=
  f_cS0n (k2 := 0) (n2 := 0) hR hy hI hlk hF hd (Nat.zero_le _) (Nat.zero_le _) hcat hok (fun v' σ' l' ⟨e, h1, h2⟩ => by cases e; subst h1; subst h2; exact kr) (fun e9 σ' l' ⟨e, h⟩ => by cases e)
theorem f_cS0w {y2 : yT} {idx : Nat} {v : Value} (hR : Fw g y2 [] σ l v) (hy : okY y2 0) (hI : okT y2) (hlk : LK (yN y).cls idx (yN y2)) (hF : fitY y y2 = true) (hd : decode (yB y) pc = .ok (.invokestatic idx, 3)) (hcat : Nat.ble ((st.map fun v => v.category).sum) 8 = true) (hok : okF y2 110 L st) 
    (kr : GW g y k n Φ (pc + 3) L (v :: st) (mem σ l)) : GW g y k n Φ pc L st (mem σ l) :=
  f_cS0n (k2 := 0) (n2 := 0) hR hy hI hlk hF hd (Nat.zero_le _) (Nat.zero_le _) hcat hok (fun v' σ' l' ⟨e, h1, h2⟩ => by cases e; subst h1; subst h2; exact kr) (fun e9 σ' l' ⟨e, h⟩ => by cases e)

theorem f_cV1n {y2 : yT} {idx k2 n2 b ci : Nat} {a1 : Value} {Ψ : mO → sT → (Nat → Nat) → Prop} (hR : Fn g y2 k2 n2 (.ref b :: [a1]) σ l Ψ) (hk : kd b = ci + 10) (hb : b < 110) (hci : (CL[ci]?).map (·.1) = some (yN y2).cls) (hy : okY y2 1) (hI : okI y2) (hlk : LK (yN y).cls idx (yN y2)) (hF : fitY y y2 = true) (hd : decode (yB y) pc = .ok (.invokevirtual idx, 3)) (hk2 : k2 ≤ k) (hn2 : n2 ≤ n) (hcat : Nat.ble ((st.map fun v => v.category).sum) 8 = true) (hok : okF y2 110 L st) 
    (kr : ∀ v σ' l', Ψ (.inl v) σ' l' → GW g y (k - k2) (n - n2) Φ (pc + 3) L (v.toList ++ st) (mem σ' l'))
    (kx : ∀ e σ' l', Ψ (.inr e) σ' l' → yH y = [] ∧ Φ (.inr e) (mem σ' l')) : GW g y k n Φ pc L (a1 :: .ref b :: st) (mem σ l) :=
  f_callV (As := [a1]) hR hk hb hci hy hI hlk hF hd hk2 hn2 hcat hok kr kx
theorem f_cV1i {y2 : yT} {idx k2 n2 b ci : Nat} {a1 : Value} {R : Int → sT → (Nat → Nat) → Prop} (hR : Fi g y2 k2 n2 (.ref b :: [a1]) σ l R) (hk : kd b = ci + 10) (hb : b < 110) (hci : (CL[ci]?).map (·.1) = some (yN y2).cls) (hy : okY y2 1) (hI : okI y2) (hlk : LK (yN y).cls idx (yN y2)) (hF : fitY y y2 = true) (hd : decode (yB y) pc = .ok (.invokevirtual idx, 3)) (hk2 : k2 ≤ k) (hn2 : n2 ≤ n) (hcat : Nat.ble ((st.map fun v => v.category).sum) 8 = true) (hok : okF y2 110 L st) 
    (kr : ∀ x σ' l', R x σ' l' → GW g y (k - k2) (n - n2) Φ (pc + 3) L (iv x :: st) (mem σ' l')) : GW g y k n Φ pc L (a1 :: .ref b :: st) (mem σ l) :=
  f_cV1n hR hk hb hci hy hI hlk hF hd hk2 hn2 hcat hok (fun v σ' l' ⟨x, e, h⟩ => by cases e; exact kr x σ' l' h) (fun e9 σ' l' ⟨x, e, h⟩ => by cases e)
theorem f_cV1m {y2 : yT} {idx k2 n2 b ci : Nat} {a1 : Value} {R : sT → (Nat → Nat) → Prop} (hR : Fu g y2 k2 n2 (.ref b :: [a1]) σ l R) (hk : kd b = ci + 10) (hb : b < 110) (hci : (CL[ci]?).map (·.1) = some (yN y2).cls) (hy : okY y2 1) (hI : okI y2) (hlk : LK (yN y).cls idx (yN y2)) (hF : fitY y y2 = true) (hd : decode (yB y) pc = .ok (.invokevirtual idx, 3)) (hk2 : k2 ≤ k) (hn2 : n2 ≤ n) (hcat : Nat.ble ((st.map fun v => v.category).sum) 8 = true) (hok : okF y2 110 L st) 
    (kr : ∀ σ' l', R σ' l' → GW g y (k - k2) (n - n2) Φ (pc + 3) L st (mem σ' l')) : GW g y k n Φ pc L (a1 :: .ref b :: st) (mem σ l) :=
  f_cV1n hR hk hb hci hy hI hlk hF hd hk2 hn2 hcat hok (fun v σ' l' ⟨e, h⟩ => by cases e; exact kr σ' l' h) (fun e9 σ' l' ⟨e, h⟩ => by cases e)
theorem f_cV1d {y2 : yT} {idx b ci : Nat} {a1 : Value} {τ : sT} (hR : FO g y2 (.ref b :: [a1]) σ l τ) (hk : kd b = ci + 10) (hb : b < 110) (hci : (CL[ci]?).map (·.1) = some (yN y2).cls) (hy : okY y2 1) (hI : okI y2) (hlk : LK (yN y).cls idx (yN y2)) (hF : fitY y y2 = true) (hd : decode (yB y) pc = .ok (.invokevirtual idx, 3)) (hcat : Nat.ble ((st.map fun v => v.category).sum) 8 = true) (hok : okF y2 110 L st) 
    (kr : GW g y k n Φ (pc + 3) L st (mem τ l)) : GW g y k n Φ pc L (a1 :: .ref b :: st) (mem σ l) :=
  f_cV1n (k2 := 0) (n2 := 0) hR hk hb hci hy hI hlk hF hd (Nat.zero_le _) (Nat.zero_le _) hcat hok (fun v' σ' l' ⟨e, h1, h2⟩ => by cases e; subst h1; subst h2; exact kr) (fun e9 σ' l' ⟨e, h⟩ => by cases e)
theorem f_cV1x {y2 : yT} {idx b ci : Nat} {a1 : Value} {v : Value} {τ : sT} (hR : FX g y2 (.ref b :: [a1]) σ l v τ) (hk : kd b = ci + 10) (hb : b < 110) (hci : (CL[ci]?).map (·.1) = some (yN y2).cls) (hy : okY y2 1) (hI : okI y2) (hlk : LK (yN y).cls idx (yN y2)) (hF : fitY y y2 = true) (hd : decode (yB y) pc = .ok (.invokevirtual idx, 3)) (hcat : Nat.ble ((st.map fun v => v.category).sum) 8 = true) (hok : okF y2 110 L st) 
    (kr : GW g y k n Φ (pc + 3) L (v :: st) (mem τ l)) : GW g y k n Φ pc L (a1 :: .ref b :: st) (mem σ l) :=
  f_cV1n (k2 := 0) (n2 := 0) hR hk hb hci hy hI hlk hF hd (Nat.zero_le _) (Nat.zero_le _) hcat hok (fun v' σ' l' ⟨e, h1, h2⟩ => by cases e; subst h1; subst h2; exact kr) (fun e9 σ' l' ⟨e, h⟩ => by cases e)
theorem f_cV1w {y2 : yT} {idx b ci : Nat} {a1 : Value} {v : Value} (hR : Fw g y2 (.ref b :: [a1]) σ l v) (hk : kd b = ci + 10) (hb : b < 110) (hci : (CL[ci]?).map (·.1) = some (yN y2).cls) (hy : okY y2 1) (hI : okI y2) (hlk : LK (yN y).cls idx (yN y2)) (hF : fitY y y2 = true) (hd : decode (yB y) pc = .ok (.invokevirtual idx, 3)) (hcat : Nat.ble ((st.map fun v => v.category).sum) 8 = true) (hok : okF y2 110 L st) 
    (kr : GW g y k n Φ (pc + 3) L (v :: st) (mem σ l)) : GW g y k n Φ pc L (a1 :: .ref b :: st) (mem σ l) :=
  f_cV1n (k2 := 0) (n2 := 0) hR hk hb hci hy hI hlk hF hd (Nat.zero_le _) (Nat.zero_le _) hcat hok (fun v' σ' l' ⟨e, h1, h2⟩ => by cases e; subst h1; subst h2; exact kr) (fun e9 σ' l' ⟨e, h⟩ => by cases e)

theorem f_cS1n {y2 : yT} {idx k2 n2 : Nat} {a1 : Value} {Ψ : mO → sT → (Nat → Nat) → Prop} (hR : Fn g y2 k2 n2 [a1] σ l Ψ) (hy : okY y2 1) (hI : okT y2) (hlk : LK (yN y).cls idx (yN y2)) (hF : fitY y y2 = true) (hd : decode (yB y) pc = .ok (.invokestatic idx, 3)) (hk2 : k2 ≤ k) (hn2 : n2 ≤ n) (hcat : Nat.ble ((st.map fun v => v.category).sum) 8 = true) (hok : okF y2 110 L st) 
    (kr : ∀ v σ' l', Ψ (.inl v) σ' l' → GW g y (k - k2) (n - n2) Φ (pc + 3) L (v.toList ++ st) (mem σ' l'))
    (kx : ∀ e σ' l', Ψ (.inr e) σ' l' → yH y = [] ∧ Φ (.inr e) (mem σ' l')) : GW g y k n Φ pc L (a1 :: st) (mem σ l) :=
  f_callS (As := [a1]) hR hy hI hlk hF hd hk2 hn2 hcat hok kr kx
theorem f_cS1i {y2 : yT} {idx k2 n2 : Nat} {a1 : Value} {R : Int → sT → (Nat → Nat) → Prop} (hR : Fi g y2 k2 n2 [a1] σ l R) (hy : okY y2 1) (hI : okT y2) (hlk : LK (yN y).cls idx (yN y2)) (hF : fitY y y2 = true) (hd : decode (yB y) pc = .ok (.invokestatic idx, 3)) (hk2 : k2 ≤ k) (hn2 : n2 ≤ n) (hcat : Nat.ble ((st.map fun v => v.category).sum) 8 = true) (hok : okF y2 110 L st) 
    (kr : ∀ x σ' l', R x σ' l' → GW g y (k - k2) (n - n2) Φ (pc + 3) L (iv x :: st) (mem σ' l')) : GW g y k n Φ pc L (a1 :: st) (mem σ l) :=
  f_cS1n hR hy hI hlk hF hd hk2 hn2 hcat hok (fun v σ' l' ⟨x, e, h⟩ => by cases e; exact kr x σ' l' h) (fun e9 σ' l' ⟨x, e, h⟩ => by cases e)
theorem f_cS1m {y2 : yT} {idx k2 n2 : Nat} {a1 : Value} {R : sT → (Nat → Nat) → Prop} (hR : Fu g y2 k2 n2 [a1] σ l R) (hy : okY y2 1) (hI : okT y2) (hlk : LK (yN y).cls idx (yN y2)) (hF : fitY y y2 = true) (hd : decode (yB y) pc = .ok (.invokestatic idx, 3)) (hk2 : k2 ≤ k) (hn2 : n2 ≤ n) (hcat : Nat.ble ((st.map fun v => v.category).sum) 8 = true) (hok : okF y2 110 L st) 
    (kr : ∀ σ' l', R σ' l' → GW g y (k - k2) (n - n2) Φ (pc + 3) L st (mem σ' l')) : GW g y k n Φ pc L (a1 :: st) (mem σ l) :=
  f_cS1n hR hy hI hlk hF hd hk2 hn2 hcat hok (fun v σ' l' ⟨e, h⟩ => by cases e; exact kr σ' l' h) (fun e9 σ' l' ⟨e, h⟩ => by cases e)
theorem f_cS1d {y2 : yT} {idx : Nat} {a1 : Value} {τ : sT} (hR : FO g y2 [a1] σ l τ) (hy : okY y2 1) (hI : okT y2) (hlk : LK (yN y).cls idx (yN y2)) (hF : fitY y y2 = true) (hd : decode (yB y) pc = .ok (.invokestatic idx, 3)) (hcat : Nat.ble ((st.map fun v => v.category).sum) 8 = true) (hok : okF y2 110 L st) 
    (kr : GW g y k n Φ (pc + 3) L st (mem τ l)) : GW g y k n Φ pc L (a1 :: st) (mem σ l) :=
  f_cS1n (k2 := 0) (n2 := 0) hR hy hI hlk hF hd (Nat.zero_le _) (Nat.zero_le _) hcat hok (fun v' σ' l' ⟨e, h1, h2⟩ => by cases e; subst h1; subst h2; exact kr) (fun e9 σ' l' ⟨e, h⟩ => by cases e)
theorem f_cS1x {y2 : yT} {idx : Nat} {a1 : Value} {v : Value} {τ : sT} (hR : FX g y2 [a1] σ l v τ) (hy : okY y2 1) (hI : okT y2) (hlk : LK (yN y).cls idx (yN y2)) (hF : fitY y y2 = true) (hd : decode (yB y) pc = .ok (.invokestatic idx, 3)) (hcat : Nat.ble ((st.map fun v => v.category).sum) 8 = true) (hok : okF y2 110 L st) 
    (kr : GW g y k n Φ (pc + 3) L (v :: st) (mem τ l)) : GW g y k n Φ pc L (a1 :: st) (mem σ l) :=
  f_cS1n (k2 := 0) (n2 := 0) hR hy hI hlk hF hd (Nat.zero_le _) (Nat.zero_le _) hcat hok (fun v' σ' l' ⟨e, h1, h2⟩ => by cases e; subst h1; subst h2; exact kr) (fun e9 σ' l' ⟨e, h⟩ => by cases e)
theorem f_cS1w {y2 : yT} {idx : Nat} {a1 : Value} {v : Value} (hR : Fw g y2 [a1] σ l v) (hy : okY y2 1) (hI : okT y2) (hlk : LK (yN y).cls idx (yN y2)) (hF : fitY y y2 = true) (hd : decode (yB y) pc = .ok (.invokestatic idx, 3)) (hcat : Nat.ble ((st.map fun v => v.category).sum) 8 = true) (hok : okF y2 110 L st) 
    (kr : GW g y k n Φ (pc + 3) L (v :: st) (mem σ l)) : GW g y k n Φ pc L (a1 :: st) (mem σ l) :=
  f_cS1n (k2 := 0) (n2 := 0) hR hy hI hlk hF hd (Nat.zero_le _) (Nat.zero_le _) hcat hok (fun v' σ' l' ⟨e, h1, h2⟩ => by cases e; subst h1; subst h2; exact kr) (fun e9 σ' l' ⟨e, h⟩ => by cases e)

theorem f_cV2n {y2 : yT} {idx k2 n2 b ci : Nat} {a1 a2 : Value} {Ψ : mO → sT → (Nat → Nat) → Prop} (hR : Fn g y2 k2 n2 (.ref b :: [a1, a2]) σ l Ψ) (hk : kd b = ci + 10) (hb : b < 110) (hci : (CL[ci]?).map (·.1) = some (yN y2).cls) (hy : okY y2 2) (hI : okI y2) (hlk : LK (yN y).cls idx (yN y2)) (hF : fitY y y2 = true) (hd : decode (yB y) pc = .ok (.invokevirtual idx, 3)) (hk2 : k2 ≤ k) (hn2 : n2 ≤ n) (hcat : Nat.ble ((st.map fun v => v.category).sum) 8 = true) (hok : okF y2 110 L st) 
    (kr : ∀ v σ' l', Ψ (.inl v) σ' l' → GW g y (k - k2) (n - n2) Φ (pc + 3) L (v.toList ++ st) (mem σ' l'))
    (kx : ∀ e σ' l', Ψ (.inr e) σ' l' → yH y = [] ∧ Φ (.inr e) (mem σ' l')) : GW g y k n Φ pc L (a2 :: a1 :: .ref b :: st) (mem σ l) :=
  f_callV (As := [a1, a2]) hR hk hb hci hy hI hlk hF hd hk2 hn2 hcat hok kr kx
theorem f_cV2i {y2 : yT} {idx k2 n2 b ci : Nat} {a1 a2 : Value} {R : Int → sT → (Nat → Nat) → Prop} (hR : Fi g y2 k2 n2 (.ref b :: [a1, a2]) σ l R) (hk : kd b = ci + 10) (hb : b < 110) (hci : (CL[ci]?).map (·.1) = some (yN y2).cls) (hy : okY y2 2) (hI : okI y2) (hlk : LK (yN y).cls idx (yN y2)) (hF : fitY y y2 = true) (hd : decode (yB y) pc = .ok (.invokevirtual idx, 3)) (hk2 : k2 ≤ k) (hn2 : n2 ≤ n) (hcat : Nat.ble ((st.map fun v => v.category).sum) 8 = true) (hok : okF y2 110 L st) 
    (kr : ∀ x σ' l', R x σ' l' → GW g y (k - k2) (n - n2) Φ (pc + 3) L (iv x :: st) (mem σ' l')) : GW g y k n Φ pc L (a2 :: a1 :: .ref b :: st) (mem σ l) :=
  f_cV2n hR hk hb hci hy hI hlk hF hd hk2 hn2 hcat hok (fun v σ' l' ⟨x, e, h⟩ => by cases e; exact kr x σ' l' h) (fun e9 σ' l' ⟨x, e, h⟩ => by cases e)
theorem f_cV2m {y2 : yT} {idx k2 n2 b ci : Nat} {a1 a2 : Value} {R : sT → (Nat → Nat) → Prop} (hR : Fu g y2 k2 n2 (.ref b :: [a1, a2]) σ l R) (hk : kd b = ci + 10) (hb : b < 110) (hci : (CL[ci]?).map (·.1) = some (yN y2).cls) (hy : okY y2 2) (hI : okI y2) (hlk : LK (yN y).cls idx (yN y2)) (hF : fitY y y2 = true) (hd : decode (yB y) pc = .ok (.invokevirtual idx, 3)) (hk2 : k2 ≤ k) (hn2 : n2 ≤ n) (hcat : Nat.ble ((st.map fun v => v.category).sum) 8 = true) (hok : okF y2 110 L st) 
    (kr : ∀ σ' l', R σ' l' → GW g y (k - k2) (n - n2) Φ (pc + 3) L st (mem σ' l')) : GW g y k n Φ pc L (a2 :: a1 :: .ref b :: st) (mem σ l) :=
  f_cV2n hR hk hb hci hy hI hlk hF hd hk2 hn2 hcat hok (fun v σ' l' ⟨e, h⟩ => by cases e; exact kr σ' l' h) (fun e9 σ' l' ⟨e, h⟩ => by cases e)
theorem f_cV2d {y2 : yT} {idx b ci : Nat} {a1 a2 : Value} {τ : sT} (hR : FO g y2 (.ref b :: [a1, a2]) σ l τ) (hk : kd b = ci + 10) (hb : b < 110) (hci : (CL[ci]?).map (·.1) = some (yN y2).cls) (hy : okY y2 2) (hI : okI y2) (hlk : LK (yN y).cls idx (yN y2)) (hF : fitY y y2 = true) (hd : decode (yB y) pc = .ok (.invokevirtual idx, 3)) (hcat : Nat.ble ((st.map fun v => v.category).sum) 8 = true) (hok : okF y2 110 L st) 
    (kr : GW g y k n Φ (pc + 3) L st (mem τ l)) : GW g y k n Φ pc L (a2 :: a1 :: .ref b :: st) (mem σ l) :=
  f_cV2n (k2 := 0) (n2 := 0) hR hk hb hci hy hI hlk hF hd (Nat.zero_le _) (Nat.zero_le _) hcat hok (fun v' σ' l' ⟨e, h1, h2⟩ => by cases e; subst h1; subst h2; exact kr) (fun e9 σ' l' ⟨e, h⟩ => by cases e)
theorem f_cV2x {y2 : yT} {idx b ci : Nat} {a1 a2 : Value} {v : Value} {τ : sT} (hR : FX g y2 (.ref b :: [a1, a2]) σ l v τ) (hk : kd b = ci + 10) (hb : b < 110) (hci : (CL[ci]?).map (·.1) = some (yN y2).cls) (hy : okY y2 2) (hI : okI y2) (hlk : LK (yN y).cls idx (yN y2)) (hF : fitY y y2 = true) (hd : decode (yB y) pc = .ok (.invokevirtual idx, 3)) (hcat : Nat.ble ((st.map fun v => v.category).sum) 8 = true) (hok : okF y2 110 L st) 
    (kr : GW g y k n Φ (pc + 3) L (v :: st) (mem τ l)) : GW g y k n Φ pc L (a2 :: a1 :: .ref b :: st) (mem σ l) :=
  f_cV2n (k2 := 0) (n2 := 0) hR hk hb hci hy hI hlk hF hd (Nat.zero_le _) (Nat.zero_le _) hcat hok (fun v' σ' l' ⟨e, h1, h2⟩ => by cases e; subst h1; subst h2; exact kr) (fun e9 σ' l' ⟨e, h⟩ => by cases e)
theorem f_cV2w {y2 : yT} {idx b ci : Nat} {a1 a2 : Value} {v : Value} (hR : Fw g y2 (.ref b :: [a1, a2]) σ l v) (hk : kd b = ci + 10) (hb : b < 110) (hci : (CL[ci]?).map (·.1) = some (yN y2).cls) (hy : okY y2 2) (hI : okI y2) (hlk : LK (yN y).cls idx (yN y2)) (hF : fitY y y2 = true) (hd : decode (yB y) pc = .ok (.invokevirtual idx, 3)) (hcat : Nat.ble ((st.map fun v => v.category).sum) 8 = true) (hok : okF y2 110 L st) 
    (kr : GW g y k n Φ (pc + 3) L (v :: st) (mem σ l)) : GW g y k n Φ pc L (a2 :: a1 :: .ref b :: st) (mem σ l) :=
  f_cV2n (k2 := 0) (n2 := 0) hR hk hb hci hy hI hlk hF hd (Nat.zero_le _) (Nat.zero_le _) hcat hok (fun v' σ' l' ⟨e, h1, h2⟩ => by cases e; subst h1; subst h2; exact kr) (fun e9 σ' l' ⟨e, h⟩ => by cases e)

theorem f_cS2n {y2 : yT} {idx k2 n2 : Nat} {a1 a2 : Value} {Ψ : mO → sT → (Nat → Nat) → Prop} (hR : Fn g y2 k2 n2 [a1, a2] σ l Ψ) (hy : okY y2 2) (hI : okT y2) (hlk : LK (yN y).cls idx (yN y2)) (hF : fitY y y2 = true) (hd : decode (yB y) pc = .ok (.invokestatic idx, 3)) (hk2 : k2 ≤ k) (hn2 : n2 ≤ n) (hcat : Nat.ble ((st.map fun v => v.category).sum) 8 = true) (hok : okF y2 110 L st) 
    (kr : ∀ v σ' l', Ψ (.inl v) σ' l' → GW g y (k - k2) (n - n2) Φ (pc + 3) L (v.toList ++ st) (mem σ' l'))
    (kx : ∀ e σ' l', Ψ (.inr e) σ' l' → yH y = [] ∧ Φ (.inr e) (mem σ' l')) : GW g y k n Φ pc L (a2 :: a1 :: st) (mem σ l) :=
  f_callS (As := [a1, a2]) hR hy hI hlk hF hd hk2 hn2 hcat hok kr kx
theorem f_cS2i {y2 : yT} {idx k2 n2 : Nat} {a1 a2 : Value} {R : Int → sT → (Nat → Nat) → Prop} (hR : Fi g y2 k2 n2 [a1, a2] σ l R) (hy : okY y2 2) (hI : okT y2) (hlk : LK (yN y).cls idx (yN y2)) (hF : fitY y y2 = true) (hd : decode (yB y) pc = .ok (.invokestatic idx, 3)) (hk2 : k2 ≤ k) (hn2 : n2 ≤ n) (hcat : Nat.ble ((st.map fun v => v.category).sum) 8 = true) (hok : okF y2 110 L st) 
    (kr : ∀ x σ' l', R x σ' l' → GW g y (k - k2) (n - n2) Φ (pc + 3) L (iv x :: st) (mem σ' l')) : GW g y k n Φ pc L (a2 :: a1 :: st) (mem σ l) :=
  f_cS2n hR hy hI hlk hF hd hk2 hn2 hcat hok (fun v σ' l' ⟨x, e, h⟩ => by cases e; exact kr x σ' l' h) (fun e9 σ' l' ⟨x, e, h⟩ => by cases e)
theorem f_cS2m {y2 : yT} {idx k2 n2 : Nat} {a1 a2 : Value} {R : sT → (Nat → Nat) → Prop} (hR : Fu g y2 k2 n2 [a1, a2] σ l R) (hy : okY y2 2) (hI : okT y2) (hlk : LK (yN y).cls idx (yN y2)) (hF : fitY y y2 = true) (hd : decode (yB y) pc = .ok (.invokestatic idx, 3)) (hk2 : k2 ≤ k) (hn2 : n2 ≤ n) (hcat : Nat.ble ((st.map fun v => v.category).sum) 8 = true) (hok : okF y2 110 L st) 
    (kr : ∀ σ' l', R σ' l' → GW g y (k - k2) (n - n2) Φ (pc + 3) L st (mem σ' l')) : GW g y k n Φ pc L (a2 :: a1 :: st) (mem σ l) :=
  f_cS2n hR hy hI hlk hF hd hk2 hn2 hcat hok (fun v σ' l' ⟨e, h⟩ => by cases e; exact kr σ' l' h) (fun e9 σ' l' ⟨e, h⟩ => by cases e)
theorem f_cS2d {y2 : yT} {idx : Nat} {a1 a2 : Value} {τ : sT} (hR : FO g y2 [a1, a2] σ l τ) (hy : okY y2 2) (hI : okT y2) (hlk : LK (yN y).cls idx (yN y2)) (hF : fitY y y2 = true) (hd : decode (yB y) pc = .ok (.invokestatic idx, 3)) (hcat : Nat.ble ((st.map fun v => v.category).sum) 8 = true) (hok : okF y2 110 L st) 
    (kr : GW g y k n Φ (pc + 3) L st (mem τ l)) : GW g y k n Φ pc L (a2 :: a1 :: st) (mem σ l) :=
  f_cS2n (k2 := 0) (n2 := 0) hR hy hI hlk hF hd (Nat.zero_le _) (Nat.zero_le _) hcat hok (fun v' σ' l' ⟨e, h1, h2⟩ => by cases e; subst h1; subst h2; exact kr) (fun e9 σ' l' ⟨e, h⟩ => by cases e)
theorem f_cS2x {y2 : yT} {idx : Nat} {a1 a2 : Value} {v : Value} {τ : sT} (hR : FX g y2 [a1, a2] σ l v τ) (hy : okY y2 2) (hI : okT y2) (hlk : LK (yN y).cls idx (yN y2)) (hF : fitY y y2 = true) (hd : decode (yB y) pc = .ok (.invokestatic idx, 3)) (hcat : Nat.ble ((st.map fun v => v.category).sum) 8 = true) (hok : okF y2 110 L st) 
    (kr : GW g y k n Φ (pc + 3) L (v :: st) (mem τ l)) : GW g y k n Φ pc L (a2 :: a1 :: st) (mem σ l) :=
  f_cS2n (k2 := 0) (n2 := 0) hR hy hI hlk hF hd (Nat.zero_le _) (Nat.zero_le _) hcat hok (fun v' σ' l' ⟨e, h1, h2⟩ => by cases e; subst h1; subst h2; exact kr) (fun e9 σ' l' ⟨e, h⟩ => by cases e)
theorem f_cS2w {y2 : yT} {idx : Nat} {a1 a2 : Value} {v : Value} (hR : Fw g y2 [a1, a2] σ l v) (hy : okY y2 2) (hI : okT y2) (hlk : LK (yN y).cls idx (yN y2)) (hF : fitY y y2 = true) (hd : decode (yB y) pc = .ok (.invokestatic idx, 3)) (hcat : Nat.ble ((st.map fun v => v.category).sum) 8 = true) (hok : okF y2 110 L st) 
    (kr : GW g y k n Φ (pc + 3) L (v :: st) (mem σ l)) : GW g y k n Φ pc L (a2 :: a1 :: st) (mem σ l) :=
  f_cS2n (k2 := 0) (n2 := 0) hR hy hI hlk hF hd (Nat.zero_le _) (Nat.zero_le _) hcat hok (fun v' σ' l' ⟨e, h1, h2⟩ => by cases e; subst h1; subst h2; exact kr) (fun e9 σ' l' ⟨e, h⟩ => by cases e)

theorem f_cV3n {y2 : yT} {idx k2 n2 b ci : Nat} {a1 a2 a3 : Value} {Ψ : mO → sT → (Nat → Nat) → Prop} (hR : Fn g y2 k2 n2 (.ref b :: [a1, a2, a3]) σ l Ψ) (hk : kd b = ci + 10) (hb : b < 110) (hci : (CL[ci]?).map (·.1) = some (yN y2).cls) (hy : okY y2 3) (hI : okI y2) (hlk : LK (yN y).cls idx (yN y2)) (hF : fitY y y2 = true) (hd : decode (yB y) pc = .ok (.invokevirtual idx, 3)) (hk2 : k2 ≤ k) (hn2 : n2 ≤ n) (hcat : Nat.ble ((st.map fun v => v.category).sum) 8 = true) (hok : okF y2 110 L st) 
    (kr : ∀ v σ' l', Ψ (.inl v) σ' l' → GW g y (k - k2) (n - n2) Φ (pc + 3) L (v.toList ++ st) (mem σ' l'))
    (kx : ∀ e σ' l', Ψ (.inr e) σ' l' → yH y = [] ∧ Φ (.inr e) (mem σ' l')) : GW g y k n Φ pc L (a3 :: a2 :: a1 :: .ref b :: st) (mem σ l) :=
  f_callV (As := [a1, a2, a3]) hR hk hb hci hy hI hlk hF hd hk2 hn2 hcat hok kr kx
theorem f_cV3i {y2 : yT} {idx k2 n2 b ci : Nat} {a1 a2 a3 : Value} {R : Int → sT → (Nat → Nat) → Prop} (hR : Fi g y2 k2 n2 (.ref b :: [a1, a2, a3]) σ l R) (hk : kd b = ci + 10) (hb : b < 110) (hci : (CL[ci]?).map (·.1) = some (yN y2).cls) (hy : okY y2 3) (hI : okI y2) (hlk : LK (yN y).cls idx (yN y2)) (hF : fitY y y2 = true) (hd : decode (yB y) pc = .ok (.invokevirtual idx, 3)) (hk2 : k2 ≤ k) (hn2 : n2 ≤ n) (hcat : Nat.ble ((st.map fun v => v.category).sum) 8 = true) (hok : okF y2 110 L st) 
    (kr : ∀ x σ' l', R x σ' l' → GW g y (k - k2) (n - n2) Φ (pc + 3) L (iv x :: st) (mem σ' l')) : GW g y k n Φ pc L (a3 :: a2 :: a1 :: .ref b :: st) (mem σ l) :=
  f_cV3n hR hk hb hci hy hI hlk hF hd hk2 hn2 hcat hok (fun v σ' l' ⟨x, e, h⟩ => by cases e; exact kr x σ' l' h) (fun e9 σ' l' ⟨x, e, h⟩ => by cases e)
theorem f_cV3m {y2 : yT} {idx k2 n2 b ci : Nat} {a1 a2 a3 : Value} {R : sT → (Nat → Nat) → Prop} (hR : Fu g y2 k2 n2 (.ref b :: [a1, a2, a3]) σ l R) (hk : kd b = ci + 10) (hb : b < 110) (hci : (CL[ci]?).map (·.1) = some (yN y2).cls) (hy : okY y2 3) (hI : okI y2) (hlk : LK (yN y).cls idx (yN y2)) (hF : fitY y y2 = true) (hd : decode (yB y) pc = .ok (.invokevirtual idx, 3)) (hk2 : k2 ≤ k) (hn2 : n2 ≤ n) (hcat : Nat.ble ((st.map fun v => v.category).sum) 8 = true) (hok : okF y2 110 L st) 
    (kr : ∀ σ' l', R σ' l' → GW g y (k - k2) (n - n2) Φ (pc + 3) L st (mem σ' l')) : GW g y k n Φ pc L (a3 :: a2 :: a1 :: .ref b :: st) (mem σ l) :=
  f_cV3n hR hk hb hci hy hI hlk hF hd hk2 hn2 hcat hok (fun v σ' l' ⟨e, h⟩ => by cases e; exact kr σ' l' h) (fun e9 σ' l' ⟨e, h⟩ => by cases e)
theorem f_cV3d {y2 : yT} {idx b ci : Nat} {a1 a2 a3 : Value} {τ : sT} (hR : FO g y2 (.ref b :: [a1, a2, a3]) σ l τ) (hk : kd b = ci + 10) (hb : b < 110) (hci : (CL[ci]?).map (·.1) = some (yN y2).cls) (hy : okY y2 3) (hI : okI y2) (hlk : LK (yN y).cls idx (yN y2)) (hF : fitY y y2 = true) (hd : decode (yB y) pc = .ok (.invokevirtual idx, 3)) (hcat : Nat.ble ((st.map fun v => v.category).sum) 8 = true) (hok : okF y2 110 L st) 
    (kr : GW g y k n Φ (pc + 3) L st (mem τ l)) : GW g y k n Φ pc L (a3 :: a2 :: a1 :: .ref b :: st) (mem σ l) :=
  f_cV3n (k2 := 0) (n2 := 0) hR hk hb hci hy hI hlk hF hd (Nat.zero_le _) (Nat.zero_le _) hcat hok (fun v' σ' l' ⟨e, h1, h2⟩ => by cases e; subst h1; subst h2; exact kr) (fun e9 σ' l' ⟨e, h⟩ => by cases e)
theorem f_cV3x {y2 : yT} {idx b ci : Nat} {a1 a2 a3 : Value} {v : Value} {τ : sT} (hR : FX g y2 (.ref b :: [a1, a2, a3]) σ l v τ) (hk : kd b = ci + 10) (hb : b < 110) (hci : (CL[ci]?).map (·.1) = some (yN y2).cls) (hy : okY y2 3) (hI : okI y2) (hlk : LK (yN y).cls idx (yN y2)) (hF : fitY y y2 = true) (hd : decode (yB y) pc = .ok (.invokevirtual idx, 3)) (hcat : Nat.ble ((st.map fun v => v.category).sum) 8 = true) (hok : okF y2 110 L st) 
    (kr : GW g y k n Φ (pc + 3) L (v :: st) (mem τ l)) : GW g y k n Φ pc L (a3 :: a2 :: a1 :: .ref b :: st) (mem σ l) :=
  f_cV3n (k2 := 0) (n2 := 0) hR hk hb hci hy hI hlk hF hd (Nat.zero_le _) (Nat.zero_le _) hcat hok (fun v' σ' l' ⟨e, h1, h2⟩ => by cases e; subst h1; subst h2; exact kr) (fun e9 σ' l' ⟨e, h⟩ => by cases e)
theorem f_cV3w {y2 : yT} {idx b ci : Nat} {a1 a2 a3 : Value} {v : Value} (hR : Fw g y2 (.ref b :: [a1, a2, a3]) σ l v) (hk : kd b = ci + 10) (hb : b < 110) (hci : (CL[ci]?).map (·.1) = some (yN y2).cls) (hy : okY y2 3) (hI : okI y2) (hlk : LK (yN y).cls idx (yN y2)) (hF : fitY y y2 = true) (hd : decode (yB y) pc = .ok (.invokevirtual idx, 3)) (hcat : Nat.ble ((st.map fun v => v.category).sum) 8 = true) (hok : okF y2 110 L st) 
    (kr : GW g y k n Φ (pc + 3) L (v :: st) (mem σ l)) : GW g y k n Φ pc L (a3 :: a2 :: a1 :: .ref b :: st) (mem σ l) :=
  f_cV3n (k2 := 0) (n2 := 0) hR hk hb hci hy hI hlk hF hd (Nat.zero_le _) (Nat.zero_le _) hcat hok (fun v' σ' l' ⟨e, h1, h2⟩ => by cases e; subst h1; subst h2; exact kr) (fun e9 σ' l' ⟨e, h⟩ => by cases e)

theorem f_cS3n {y2 : yT} {idx k2 n2 : Nat} {a1 a2 a3 : Value} {Ψ : mO → sT → (Nat → Nat) → Prop} (hR : Fn g y2 k2 n2 [a1, a2, a3] σ l Ψ) (hy : okY y2 3) (hI : okT y2) (hlk : LK (yN y).cls idx (yN y2)) (hF : fitY y y2 = true) (hd : decode (yB y) pc = .ok (.invokestatic idx, 3)) (hk2 : k2 ≤ k) (hn2 : n2 ≤ n) (hcat : Nat.ble ((st.map fun v => v.category).sum) 8 = true) (hok : okF y2 110 L st) 
    (kr : ∀ v σ' l', Ψ (.inl v) σ' l' → GW g y (k - k2) (n - n2) Φ (pc + 3) L (v.toList ++ st) (mem σ' l'))
    (kx : ∀ e σ' l', Ψ (.inr e) σ' l' → yH y = [] ∧ Φ (.inr e) (mem σ' l')) : GW g y k n Φ pc L (a3 :: a2 :: a1 :: st) (mem σ l) :=
  f_callS (As := [a1, a2, a3]) hR hy hI hlk hF hd hk2 hn2 hcat hok kr kx
theorem f_cS3i {y2 : yT} {idx k2 n2 : Nat} {a1 a2 a3 : Value} {R : Int → sT → (Nat → Nat) → Prop} (hR : Fi g y2 k2 n2 [a1, a2, a3] σ l R) (hy : okY y2 3) (hI : okT y2) (hlk : LK (yN y).cls idx (yN y2)) (hF : fitY y y2 = true) (hd : decode (yB y) pc = .ok (.invokestatic idx, 3)) (hk2 : k2 ≤ k) (hn2 : n2 ≤ n) (hcat : Nat.ble ((st.map fun v => v.category).sum) 8 = true) (hok : okF y2 110 L st) 
    (kr : ∀ x σ' l', R x σ' l' → GW g y (k - k2) (n - n2) Φ (pc + 3) L (iv x :: st) (mem σ' l')) : GW g y k n Φ pc L (a3 :: a2 :: a1 :: st) (mem σ l) :=
  f_cS3n hR hy hI hlk hF hd hk2 hn2 hcat hok (fun v σ' l' ⟨x, e, h⟩ => by cases e; exact kr x σ' l' h) (fun e9 σ' l' ⟨x, e, h⟩ => by cases e)
theorem f_cS3m {y2 : yT} {idx k2 n2 : Nat} {a1 a2 a3 : Value} {R : sT → (Nat → Nat) → Prop} (hR : Fu g y2 k2 n2 [a1, a2, a3] σ l R) (hy : okY y2 3) (hI : okT y2) (hlk : LK (yN y).cls idx (yN y2)) (hF : fitY y y2 = true) (hd : decode (yB y) pc = .ok (.invokestatic idx, 3)) (hk2 : k2 ≤ k) (hn2 : n2 ≤ n) (hcat : Nat.ble ((st.map fun v => v.category).sum) 8 = true) (hok : okF y2 110 L st) 
    (kr : ∀ σ' l', R σ' l' → GW g y (k - k2) (n - n2) Φ (pc + 3) L st (mem σ' l')) : GW g y k n Φ pc L (a3 :: a2 :: a1 :: st) (mem σ l) :=
  f_cS3n hR hy hI hlk hF hd hk2 hn2 hcat hok (fun v σ' l' ⟨e, h⟩ => by cases e; exact kr σ' l' h) (fun e9 σ' l' ⟨e, h⟩ => by cases e)
theorem f_cS3d {y2 : yT} {idx : Nat} {a1 a2 a3 : Value} {τ : sT} (hR : FO g y2 [a1, a2, a3] σ l τ) (hy : okY y2 3) (hI : okT y2) (hlk : LK (yN y).cls idx (yN y2)) (hF : fitY y y2 = true) (hd : decode (yB y) pc = .ok (.invokestatic idx, 3)) (hcat : Nat.ble ((st.map fun v => v.category).sum) 8 = true) (hok : okF y2 110 L st) 
    (kr : GW g y k n Φ (pc + 3) L st (mem τ l)) : GW g y k n Φ pc L (a3 :: a2 :: a1 :: st) (mem σ l) :=
  f_cS3n (k2 := 0) (n2 := 0) hR hy hI hlk hF hd (Nat.zero_le _) (Nat.zero_le _) hcat hok (fun v' σ' l' ⟨e, h1, h2⟩ => by cases e; subst h1; subst h2; exact kr) (fun e9 σ' l' ⟨e, h⟩ => by cases e)
theorem f_cS3x {y2 : yT} {idx : Nat} {a1 a2 a3 : Value} {v : Value} {τ : sT} (hR : FX g y2 [a1, a2, a3] σ l v τ) (hy : okY y2 3) (hI : okT y2) (hlk : LK (yN y).cls idx (yN y2)) (hF : fitY y y2 = true) (hd : decode (yB y) pc = .ok (.invokestatic idx, 3)) (hcat : Nat.ble ((st.map fun v => v.category).sum) 8 = true) (hok : okF y2 110 L st) 
    (kr : GW g y k n Φ (pc + 3) L (v :: st) (mem τ l)) : GW g y k n Φ pc L (a3 :: a2 :: a1 :: st) (mem σ l) :=
  f_cS3n (k2 := 0) (n2 := 0) hR hy hI hlk hF hd (Nat.zero_le _) (Nat.zero_le _) hcat hok (fun v' σ' l' ⟨e, h1, h2⟩ => by cases e; subst h1; subst h2; exact kr) (fun e9 σ' l' ⟨e, h⟩ => by cases e)
theorem f_cS3w {y2 : yT} {idx : Nat} {a1 a2 a3 : Value} {v : Value} (hR : Fw g y2 [a1, a2, a3] σ l v) (hy : okY y2 3) (hI : okT y2) (hlk : LK (yN y).cls idx (yN y2)) (hF : fitY y y2 = true) (hd : decode (yB y) pc = .ok (.invokestatic idx, 3)) (hcat : Nat.ble ((st.map fun v => v.category).sum) 8 = true) (hok : okF y2 110 L st) 
    (kr : GW g y k n Φ (pc + 3) L (v :: st) (mem σ l)) : GW g y k n Φ pc L (a3 :: a2 :: a1 :: st) (mem σ l) :=
  f_cS3n (k2 := 0) (n2 := 0) hR hy hI hlk hF hd (Nat.zero_le _) (Nat.zero_le _) hcat hok (fun v' σ' l' ⟨e, h1, h2⟩ => by cases e; subst h1; subst h2; exact kr) (fun e9 σ' l' ⟨e, h⟩ => by cases e)

theorem f_cV4n {y2 : yT} {idx k2 n2 b ci : Nat} {a1 a2 a3 a4 : Value} {Ψ : mO → sT → (Nat → Nat) → Prop} (hR : Fn g y2 k2 n2 (.ref b :: [a1, a2, a3, a4]) σ l Ψ) (hk : kd b = ci + 10) (hb : b < 110) (hci : (CL[ci]?).map (·.1) = some (yN y2).cls) (hy : okY y2 4) (hI : okI y2) (hlk : LK (yN y).cls idx (yN y2)) (hF : fitY y y2 = true) (hd : decode (yB y) pc = .ok (.invokevirtual idx, 3)) (hk2 : k2 ≤ k) (hn2 : n2 ≤ n) (hcat : Nat.ble ((st.map fun v => v.category).sum) 8 = true) (hok : okF y2 110 L st) 
    (kr : ∀ v σ' l', Ψ (.inl v) σ' l' → GW g y (k - k2) (n - n2) Φ (pc + 3) L (v.toList ++ st) (mem σ' l'))
    (kx : ∀ e σ' l', Ψ (.inr e) σ' l' → yH y = [] ∧ Φ (.inr e) (mem σ' l')) : GW g y k n Φ pc L (a4 :: a3 :: a2 :: a1 :: .ref b :: st) (mem σ l) :=
  f_callV (As := [a1, a2, a3, a4]) hR hk hb hci hy hI hlk hF hd hk2 hn2 hcat hok kr kx
theorem f_cV4i {y2 : yT} {idx k2 n2 b ci : Nat} {a1 a2 a3 a4 : Value} {R : Int → sT → (Nat → Nat) → Prop} (hR : Fi g y2 k2 n2 (.ref b :: [a1, a2, a3, a4]) σ l R) (hk : kd b = ci + 10) (hb : b < 110) (hci : (CL[ci]?).map (·.1) = some (yN y2).cls) (hy : okY y2 4) (hI : okI y2) (hlk : LK (yN y).cls idx (yN y2)) (hF : fitY y y2 = true) (hd : decode (yB y) pc = .ok (.invokevirtual idx, 3)) (hk2 : k2 ≤ k) (hn2 : n2 ≤ n) (hcat : Nat.ble ((st.map fun v => v.category).sum) 8 = true) (hok : okF y2 110 L st) 
    (kr : ∀ x σ' l', R x σ' l' → GW g y (k - k2) (n - n2) Φ (pc + 3) L (iv x :: st) (mem σ' l')) : GW g y k n Φ pc L (a4 :: a3 :: a2 :: a1 :: .ref b :: st) (mem σ l) :=
  f_cV4n hR hk hb hci hy hI hlk hF hd hk2 hn2 hcat hok (fun v σ' l' ⟨x, e, h⟩ => by cases e; exact kr x σ' l' h) (fun e9 σ' l' ⟨x, e, h⟩ => by cases e)
theorem f_cV4m {y2 : yT} {idx k2 n2 b ci : Nat} {a1 a2 a3 a4 : Value} {R : sT → (Nat → Nat) → Prop} (hR : Fu g y2 k2 n2 (.ref b :: [a1, a2, a3, a4]) σ l R) (hk : kd b = ci + 10) (hb : b < 110) (hci : (CL[ci]?).map (·.1) = some (yN y2).cls) (hy : okY y2 4) (hI : okI y2) (hlk : LK (yN y).cls idx (yN y2)) (hF : fitY y y2 = true) (hd : decode (yB y) pc = .ok (.invokevirtual idx, 3)) (hk2 : k2 ≤ k) (hn2 : n2 ≤ n) (hcat : Nat.ble ((st.map fun v => v.category).sum) 8 = true) (hok : okF y2 110 L st) 
    (kr : ∀ σ' l', R σ' l' → GW g y (k - k2) (n - n2) Φ (pc + 3) L st (mem σ' l')) : GW g y k n Φ pc L (a4 :: a3 :: a2 :: a1 :: .ref b :: st) (mem σ l) :=
  f_cV4n hR hk hb hci hy hI hlk hF hd hk2 hn2 hcat hok (fun v σ' l' ⟨e, h⟩ => by cases e; exact kr σ' l' h) (fun e9 σ' l' ⟨e, h⟩ => by cases e)
theorem f_cV4d {y2 : yT} {idx b ci : Nat} {a1 a2 a3 a4 : Value} {τ : sT} (hR : FO g y2 (.ref b :: [a1, a2, a3, a4]) σ l τ) (hk : kd b = ci + 10) (hb : b < 110) (hci : (CL[ci]?).map (·.1) = some (yN y2).cls) (hy : okY y2 4) (hI : okI y2) (hlk : LK (yN y).cls idx (yN y2)) (hF : fitY y y2 = true) (hd : decode (yB y) pc = .ok (.invokevirtual idx, 3)) (hcat : Nat.ble ((st.map fun v => v.category).sum) 8 = true) (hok : okF y2 110 L st) 
    (kr : GW g y k n Φ (pc + 3) L st (mem τ l)) : GW g y k n Φ pc L (a4 :: a3 :: a2 :: a1 :: .ref b :: st) (mem σ l) :=
  f_cV4n (k2 := 0) (n2 := 0) hR hk hb hci hy hI hlk hF hd (Nat.zero_le _) (Nat.zero_le _) hcat hok (fun v' σ' l' ⟨e, h1, h2⟩ => by cases e; subst h1; subst h2; exact kr) (fun e9 σ' l' ⟨e, h⟩ => by cases e)
theorem f_cV4x {y2 : yT} {idx b ci : Nat} {a1 a2 a3 a4 : Value} {v : Value} {τ : sT} (hR : FX g y2 (.ref b :: [a1, a2, a3, a4]) σ l v τ) (hk : kd b = ci + 10) (hb : b < 110) (hci : (CL[ci]?).map (·.1) = some (yN y2).cls) (hy : okY y2 4) (hI : okI y2) (hlk : LK (yN y).cls idx (yN y2)) (hF : fitY y y2 = true) (hd : decode (yB y) pc = .ok (.invokevirtual idx, 3)) (hcat : Nat.ble ((st.map fun v => v.category).sum) 8 = true) (hok : okF y2 110 L st) 
    (kr : GW g y k n Φ (pc + 3) L (v :: st) (mem τ l)) : GW g y k n Φ pc L (a4 :: a3 :: a2 :: a1 :: .ref b :: st) (mem σ l) :=
  f_cV4n (k2 := 0) (n2 := 0) hR hk hb hci hy hI hlk hF hd (Nat.zero_le _) (Nat.zero_le _) hcat hok (fun v' σ' l' ⟨e, h1, h2⟩ => by cases e; subst h1; subst h2; exact kr) (fun e9 σ' l' ⟨e, h⟩ => by cases e)
theorem f_cV4w {y2 : yT} {idx b ci : Nat} {a1 a2 a3 a4 : Value} {v : Value} (hR : Fw g y2 (.ref b :: [a1, a2, a3, a4]) σ l v) (hk : kd b = ci + 10) (hb : b < 110) (hci : (CL[ci]?).map (·.1) = some (yN y2).cls) (hy : okY y2 4) (hI : okI y2) (hlk : LK (yN y).cls idx (yN y2)) (hF : fitY y y2 = true) (hd : decode (yB y) pc = .ok (.invokevirtual idx, 3)) (hcat : Nat.ble ((st.map fun v => v.category).sum) 8 = true) (hok : okF y2 110 L st) 
    (kr : GW g y k n Φ (pc + 3) L (v :: st) (mem σ l)) : GW g y k n Φ pc L (a4 :: a3 :: a2 :: a1 :: .ref b :: st) (mem σ l) :=
  f_cV4n (k2 := 0) (n2 := 0) hR hk hb hci hy hI hlk hF hd (Nat.zero_le _) (Nat.zero_le _) hcat hok (fun v' σ' l' ⟨e, h1, h2⟩ => by cases e; subst h1; subst h2; exact kr) (fun e9 σ' l' ⟨e, h⟩ => by cases e)

theorem f_cS4n {y2 : yT} {idx k2 n2 : Nat} {a1 a2 a3 a4 : Value} {Ψ : mO → sT → (Nat → Nat) → Prop} (hR : Fn g y2 k2 n2 [a1, a2, a3, a4] σ l Ψ) (hy : okY y2 4) (hI : okT y2) (hlk : LK (yN y).cls idx (yN y2)) (hF : fitY y y2 = true) (hd : decode (yB y) pc = .ok (.invokestatic idx, 3)) (hk2 : k2 ≤ k) (hn2 : n2 ≤ n) (hcat : Nat.ble ((st.map fun v => v.category).sum) 8 = true) (hok : okF y2 110 L st) 
    (kr : ∀ v σ' l', Ψ (.inl v) σ' l' → GW g y (k - k2) (n - n2) Φ (pc + 3) L (v.toList ++ st) (mem σ' l'))
    (kx : ∀ e σ' l', Ψ (.inr e) σ' l' → yH y = [] ∧ Φ (.inr e) (mem σ' l')) : GW g y k n Φ pc L (a4 :: a3 :: a2 :: a1 :: st) (mem σ l) :=
  f_callS (As := [a1, a2, a3, a4]) hR hy hI hlk hF hd hk2 hn2 hcat hok kr kx
theorem f_cS4i {y2 : yT} {idx k2 n2 : Nat} {a1 a2 a3 a4 : Value} {R : Int → sT → (Nat → Nat) → Prop} (hR : Fi g y2 k2 n2 [a1, a2, a3, a4] σ l R) (hy : okY y2 4) (hI : okT y2) (hlk : LK (yN y).cls idx (yN y2)) (hF : fitY y y2 = true) (hd : decode (yB y) pc = .ok (.invokestatic idx, 3)) (hk2 : k2 ≤ k) (hn2 : n2 ≤ n) (hcat : Nat.ble ((st.map fun v => v.category).sum) 8 = true) (hok : okF y2 110 L st) 
    (kr : ∀ x σ' l', R x σ' l' → GW g y (k - k2) (n - n2) Φ (pc + 3) L (iv x :: st) (mem σ' l')) : GW g y k n Φ pc L (a4 :: a3 :: a2 :: a1 :: st) (mem σ l) :=
  f_cS4n hR hy hI hlk hF hd hk2 hn2 hcat hok (fun v σ' l' ⟨x, e, h⟩ => by cases e; exact kr x σ' l' h) (fun e9 σ' l' ⟨x, e, h⟩ => by cases e)
theorem f_cS4m {y2 : yT} {idx k2 n2 : Nat} {a1 a2 a3 a4 : Value} {R : sT → (Nat → Nat) → Prop} (hR : Fu g y2 k2 n2 [a1, a2, a3, a4] σ l R) (hy : okY y2 4) (hI : okT y2) (hlk : LK (yN y).cls idx (yN y2)) (hF : fitY y y2 = true) (hd : decode (yB y) pc = .ok (.invokestatic idx, 3)) (hk2 : k2 ≤ k) (hn2 : n2 ≤ n) (hcat : Nat.ble ((st.map fun v => v.category).sum) 8 = true) (hok : okF y2 110 L st) 
    (kr : ∀ σ' l', R σ' l' → GW g y (k - k2) (n - n2) Φ (pc + 3) L st (mem σ' l')) : GW g y k n Φ pc L (a4 :: a3 :: a2 :: a1 :: st) (mem σ l) :=
  f_cS4n hR hy hI hlk hF hd hk2 hn2 hcat hok (fun v σ' l' ⟨e, h⟩ => by cases e; exact kr σ' l' h) (fun e9 σ' l' ⟨e, h⟩ => by cases e)
theorem f_cS4d {y2 : yT} {idx : Nat} {a1 a2 a3 a4 : Value} {τ : sT} (hR : FO g y2 [a1, a2, a3, a4] σ l τ) (hy : okY y2 4) (hI : okT y2) (hlk : LK (yN y).cls idx (yN y2)) (hF : fitY y y2 = true) (hd : decode (yB y) pc = .ok (.invokestatic idx, 3)) (hcat : Nat.ble ((st.map fun v => v.category).sum) 8 = true) (hok : okF y2 110 L st) 
    (kr : GW g y k n Φ (pc + 3) L st (mem τ l)) : GW g y k n Φ pc L (a4 :: a3 :: a2 :: a1 :: st) (mem σ l) :=
  f_cS4n (k2 := 0) (n2 := 0) hR hy hI hlk hF hd (Nat.zero_le _) (Nat.zero_le _) hcat hok (fun v' σ' l' ⟨e, h1, h2⟩ => by cases e; subst h1; subst h2; exact kr) (fun e9 σ' l' ⟨e, h⟩ => by cases e)
theorem f_cS4x {y2 : yT} {idx : Nat} {a1 a2 a3 a4 : Value} {v : Value} {τ : sT} (hR : FX g y2 [a1, a2, a3, a4] σ l v τ) (hy : okY y2 4) (hI : okT y2) (hlk : LK (yN y).cls idx (yN y2)) (hF : fitY y y2 = true) (hd : decode (yB y) pc = .ok (.invokestatic idx, 3)) (hcat : Nat.ble ((st.map fun v => v.category).sum) 8 = true) (hok : okF y2 110 L st) 
    (kr : GW g y k n Φ (pc + 3) L (v :: st) (mem τ l)) : GW g y k n Φ pc L (a4 :: a3 :: a2 :: a1 :: st) (mem σ l) :=
  f_cS4n (k2 := 0) (n2 := 0) hR hy hI hlk hF hd (Nat.zero_le _) (Nat.zero_le _) hcat hok (fun v' σ' l' ⟨e, h1, h2⟩ => by cases e; subst h1; subst h2; exact kr) (fun e9 σ' l' ⟨e, h⟩ => by cases e)
theorem f_cS4w {y2 : yT} {idx : Nat} {a1 a2 a3 a4 : Value} {v : Value} (hR : Fw g y2 [a1, a2, a3, a4] σ l v) (hy : okY y2 4) (hI : okT y2) (hlk : LK (yN y).cls idx (yN y2)) (hF : fitY y y2 = true) (hd : decode (yB y) pc = .ok (.invokestatic idx, 3)) (hcat : Nat.ble ((st.map fun v => v.category).sum) 8 = true) (hok : okF y2 110 L st) 
    (kr : GW g y k n Φ (pc + 3) L (v :: st) (mem σ l)) : GW g y k n Φ pc L (a4 :: a3 :: a2 :: a1 :: st) (mem σ l) :=
  f_cS4n (k2 := 0) (n2 := 0) hR hy hI hlk hF hd (Nat.zero_le _) (Nat.zero_le _) hcat hok (fun v' σ' l' ⟨e, h1, h2⟩ => by cases e; subst h1; subst h2; exact kr) (fun e9 σ' l' ⟨e, h⟩ => by cases e)

theorem f_cV5n {y2 : yT} {idx k2 n2 b ci : Nat} {a1 a2 a3 a4 a5 : Value} {Ψ : mO → sT → (Nat → Nat) → Prop} (hR : Fn g y2 k2 n2 (.ref b :: [a1, a2, a3, a4, a5]) σ l Ψ) (hk : kd b = ci + 10) (hb : b < 110) (hci : (CL[ci]?).map (·.1) = some (yN y2).cls) (hy : okY y2 5) (hI : okI y2) (hlk : LK (yN y).cls idx (yN y2)) (hF : fitY y y2 = true) (hd : decode (yB y) pc = .ok (.invokevirtual idx, 3)) (hk2 : k2 ≤ k) (hn2 : n2 ≤ n) (hcat : Nat.ble ((st.map fun v => v.category).sum) 8 = true) (hok : okF y2 110 L st) 
    (kr : ∀ v σ' l', Ψ (.inl v) σ' l' → GW g y (k - k2) (n - n2) Φ (pc + 3) L (v.toList ++ st) (mem σ' l'))
    (kx : ∀ e σ' l', Ψ (.inr e) σ' l' → yH y = [] ∧ Φ (.inr e) (mem σ' l')) : GW g y k n Φ pc L (a5 :: a4 :: a3 :: a2 :: a1 :: .ref b :: st) (mem σ l) :=
  f_callV (As := [a1, a2, a3, a4, a5]) hR hk hb hci hy hI hlk hF hd hk2 hn2 hcat hok kr kx
theorem f_cV5i {y2 : yT} {idx k2 n2 b ci : Nat} {a1 a2 a3 a4 a5 : Value} {R : Int → sT → (Nat → Nat) → Prop} (hR : Fi g y2 k2 n2 (.ref b :: [a1, a2, a3, a4, a5]) σ l R) (hk : kd b = ci + 10) (hb : b < 110) (hci : (CL[ci]?).map (·.1) = some (yN y2).cls) (hy : okY y2 5) (hI : okI y2) (hlk : LK (yN y).cls idx (yN y2)) (hF : fitY y y2 = true) (hd : decode (yB y) pc = .ok (.invokevirtual idx, 3)) (hk2 : k2 ≤ k) (hn2 : n2 ≤ n) (hcat : Nat.ble ((st.map fun v => v.category).sum) 8 = true) (hok : okF y2 110 L st) 
    (kr : ∀ x σ' l', R x σ' l' → GW g y (k - k2) (n - n2) Φ (pc + 3) L (iv x :: st) (mem σ' l')) : GW g y k n Φ pc L (a5 :: a4 :: a3 :: a2 :: a1 :: .ref b :: st) (mem σ l) :=
  f_cV5n hR hk hb hci hy hI hlk hF hd hk2 hn2 hcat hok (fun v σ' l' ⟨x, e, h⟩ => by cases e; exact kr x σ' l' h) (fun e9 σ' l' ⟨x, e, h⟩ => by cases e)
theorem f_cV5m {y2 : yT} {idx k2 n2 b ci : Nat} {a1 a2 a3 a4 a5 : Value} {R : sT → (Nat → Nat) → Prop} (hR : Fu g y2 k2 n2 (.ref b :: [a1, a2, a3, a4, a5]) σ l R) (hk : kd b = ci + 10) (hb : b < 110) (hci : (CL[ci]?).map (·.1) = some (yN y2).cls) (hy : okY y2 5) (hI : okI y2) (hlk : LK (yN y).cls idx (yN y2)) (hF : fitY y y2 = true) (hd : decode (yB y) pc = .ok (.invokevirtual idx, 3)) (hk2 : k2 ≤ k) (hn2 : n2 ≤ n) (hcat : Nat.ble ((st.map fun v => v.category).sum) 8 = true) (hok : okF y2 110 L st) 
    (kr : ∀ σ' l', R σ' l' → GW g y (k - k2) (n - n2) Φ (pc + 3) L st (mem σ' l')) : GW g y k n Φ pc L (a5 :: a4 :: a3 :: a2 :: a1 :: .ref b :: st) (mem σ l) :=
  f_cV5n hR hk hb hci hy hI hlk hF hd hk2 hn2 hcat hok (fun v σ' l' ⟨e, h⟩ => by cases e; exact kr σ' l' h) (fun e9 σ' l' ⟨e, h⟩ => by cases e)
theorem f_cV5d {y2 : yT} {idx b ci : Nat} {a1 a2 a3 a4 a5 : Value} {τ : sT} (hR : FO g y2 (.ref b :: [a1, a2, a3, a4, a5]) σ l τ) (hk : kd b = ci + 10) (hb : b < 110) (hci : (CL[ci]?).map (·.1) = some (yN y2).cls) (hy : okY y2 5) (hI : okI y2) (hlk : LK (yN y).cls idx (yN y2)) (hF : fitY y y2 = true) (hd : decode (yB y) pc = .ok (.invokevirtual idx, 3)) (hcat : Nat.ble ((st.map fun v => v.category).sum) 8 = true) (hok : okF y2 110 L st) 
    (kr : GW g y k n Φ (pc + 3) L st (mem τ l)) : GW g y k n Φ pc L (a5 :: a4 :: a3 :: a2 :: a1 :: .ref b :: st) (mem σ l) :=
  f_cV5n (k2 := 0) (n2 := 0) hR hk hb hci hy hI hlk hF hd (Nat.zero_le _) (Nat.zero_le _) hcat hok (fun v' σ' l' ⟨e, h1, h2⟩ => by cases e; subst h1; subst h2; exact kr) (fun e9 σ' l' ⟨e, h⟩ => by cases e)
theorem f_cV5x {y2 : yT} {idx b ci : Nat} {a1 a2 a3 a4 a5 : Value} {v : Value} {τ : sT} (hR : FX g y2 (.ref b :: [a1, a2, a3, a4, a5]) σ l v τ) (hk : kd b = ci + 10) (hb : b < 110) (hci : (CL[ci]?).map (·.1) = some (yN y2).cls) (hy : okY y2 5) (hI : okI y2) (hlk : LK (yN y).cls idx (yN y2)) (hF : fitY y y2 = true) (hd : decode (yB y) pc = .ok (.invokevirtual idx, 3)) (hcat : Nat.ble ((st.map fun v => v.category).sum) 8 = true) (hok : okF y2 110 L st) 
    (kr : GW g y k n Φ (pc + 3) L (v :: st) (mem τ l)) : GW g y k n Φ pc L (a5 :: a4 :: a3 :: a2 :: a1 :: .ref b :: st) (mem σ l) :=
  f_cV5n (k2 := 0) (n2 := 0) hR hk hb hci hy hI hlk hF hd (Nat.zero_le _) (Nat.zero_le _) hcat hok (fun v' σ' l' ⟨e, h1, h2⟩ => by cases e; subst h1; subst h2; exact kr) (fun e9 σ' l' ⟨e, h⟩ => by cases e)
theorem f_cV5w {y2 : yT} {idx b ci : Nat} {a1 a2 a3 a4 a5 : Value} {v : Value} (hR : Fw g y2 (.ref b :: [a1, a2, a3, a4, a5]) σ l v) (hk : kd b = ci + 10) (hb : b < 110) (hci : (CL[ci]?).map (·.1) = some (yN y2).cls) (hy : okY y2 5) (hI : okI y2) (hlk : LK (yN y).cls idx (yN y2)) (hF : fitY y y2 = true) (hd : decode (yB y) pc = .ok (.invokevirtual idx, 3)) (hcat : Nat.ble ((st.map fun v => v.category).sum) 8 = true) (hok : okF y2 110 L st) 
    (kr : GW g y k n Φ (pc + 3) L (v :: st) (mem σ l)) : GW g y k n Φ pc L (a5 :: a4 :: a3 :: a2 :: a1 :: .ref b :: st) (mem σ l) :=
  f_cV5n (k2 := 0) (n2 := 0) hR hk hb hci hy hI hlk hF hd (Nat.zero_le _) (Nat.zero_le _) hcat hok (fun v' σ' l' ⟨e, h1, h2⟩ => by cases e; subst h1; subst h2; exact kr) (fun e9 σ' l' ⟨e, h⟩ => by cases e)

theorem f_cS5n {y2 : yT} {idx k2 n2 : Nat} {a1 a2 a3 a4 a5 : Value} {Ψ : mO → sT → (Nat → Nat) → Prop} (hR : Fn g y2 k2 n2 [a1, a2, a3, a4, a5] σ l Ψ) (hy : okY y2 5) (hI : okT y2) (hlk : LK (yN y).cls idx (yN y2)) (hF : fitY y y2 = true) (hd : decode (yB y) pc = .ok (.invokestatic idx, 3)) (hk2 : k2 ≤ k) (hn2 : n2 ≤ n) (hcat : Nat.ble ((st.map fun v => v.category).sum) 8 = true) (hok : okF y2 110 L st) 
    (kr : ∀ v σ' l', Ψ (.inl v) σ' l' → GW g y (k - k2) (n - n2) Φ (pc + 3) L (v.toList ++ st) (mem σ' l'))
    (kx : ∀ e σ' l', Ψ (.inr e) σ' l' → yH y = [] ∧ Φ (.inr e) (mem σ' l')) : GW g y k n Φ pc L (a5 :: a4 :: a3 :: a2 :: a1 :: st) (mem σ l) :=
  f_callS (As := [a1, a2, a3, a4, a5]) hR hy hI hlk hF hd hk2 hn2 hcat hok kr kx
theorem f_cS5i {y2 : yT} {idx k2 n2 : Nat} {a1 a2 a3 a4 a5 : Value} {R : Int → sT → (Nat → Nat) → Prop} (hR : Fi g y2 k2 n2 [a1, a2, a3, a4, a5] σ l R) (hy : okY y2 5) (hI : okT y2) (hlk : LK (yN y).cls idx (yN y2)) (hF : fitY y y2 = true) (hd : decode (yB y) pc = .ok (.invokestatic idx, 3)) (hk2 : k2 ≤ k) (hn2 : n2 ≤ n) (hcat : Nat.ble ((st.map fun v => v.category).sum) 8 = true) (hok : okF y2 110 L st) 
    (kr : ∀ x σ' l', R x σ' l' → GW g y (k - k2) (n - n2) Φ (pc + 3) L (iv x :: st) (mem σ' l')) : GW g y k n Φ pc L (a5 :: a4 :: a3 :: a2 :: a1 :: st) (mem σ l) :=
  f_cS5n hR hy hI hlk hF hd hk2 hn2 hcat hok (fun v σ' l' ⟨x, e, h⟩ => by cases e; exact kr x σ' l' h) (fun e9 σ' l' ⟨x, e, h⟩ => by cases e)
theorem f_cS5m {y2 : yT} {idx k2 n2 : Nat} {a1 a2 a3 a4 a5 : Value} {R : sT → (Nat → Nat) → Prop} (hR : Fu g y2 k2 n2 [a1, a2, a3, a4, a5] σ l R) (hy : okY y2 5) (hI : okT y2) (hlk : LK (yN y).cls idx (yN y2)) (hF : fitY y y2 = true) (hd : decode (yB y) pc = .ok (.invokestatic idx, 3)) (hk2 : k2 ≤ k) (hn2 : n2 ≤ n) (hcat : Nat.ble ((st.map fun v => v.category).sum) 8 = true) (hok : okF y2 110 L st) 
    (kr : ∀ σ' l', R σ' l' → GW g y (k - k2) (n - n2) Φ (pc + 3) L st (mem σ' l')) : GW g y k n Φ pc L (a5 :: a4 :: a3 :: a2 :: a1 :: st) (mem σ l) :=
  f_cS5n hR hy hI hlk hF hd hk2 hn2 hcat hok (fun v σ' l' ⟨e, h⟩ => by cases e; exact kr σ' l' h) (fun e9 σ' l' ⟨e, h⟩ => by cases e)
theorem f_cS5d {y2 : yT} {idx : Nat} {a1 a2 a3 a4 a5 : Value} {τ : sT} (hR : FO g y2 [a1, a2, a3, a4, a5] σ l τ) (hy : okY y2 5) (hI : okT y2) (hlk : LK (yN y).cls idx (yN y2)) (hF : fitY y y2 = true) (hd : decode (yB y) pc = .ok (.invokestatic idx, 3)) (hcat : Nat.ble ((st.map fun v => v.category).sum) 8 = true) (hok : okF y2 110 L st) 
    (kr : GW g y k n Φ (pc + 3) L st (mem τ l)) : GW g y k n Φ pc L (a5 :: a4 :: a3 :: a2 :: a1 :: st) (mem σ l) :=
  f_cS5n (k2 := 0) (n2 := 0) hR hy hI hlk hF hd (Nat.zero_le _) (Nat.zero_le _) hcat hok (fun v' σ' l' ⟨e, h1, h2⟩ => by cases e; subst h1; subst h2; exact kr) (fun e9 σ' l' ⟨e, h⟩ => by cases e)
theorem f_cS5x {y2 : yT} {idx : Nat} {a1 a2 a3 a4 a5 : Value} {v : Value} {τ : sT} (hR : FX g y2 [a1, a2, a3, a4, a5] σ l v τ) (hy : okY y2 5) (hI : okT y2) (hlk : LK (yN y).cls idx (yN y2)) (hF : fitY y y2 = true) (hd : decode (yB y) pc = .ok (.invokestatic idx, 3)) (hcat : Nat.ble ((st.map fun v => v.category).sum) 8 = true) (hok : okF y2 110 L st) 
    (kr : GW g y k n Φ (pc + 3) L (v :: st) (mem τ l)) : GW g y k n Φ pc L (a5 :: a4 :: a3 :: a2 :: a1 :: st) (mem σ l) :=
  f_cS5n (k2 := 0) (n2 := 0) hR hy hI hlk hF hd (Nat.zero_le _) (Nat.zero_le _) hcat hok (fun v' σ' l' ⟨e, h1, h2⟩ => by cases e; subst h1; subst h2; exact kr) (fun e9 σ' l' ⟨e, h⟩ => by cases e)
theorem f_cS5w {y2 : yT} {idx : Nat} {a1 a2 a3 a4 a5 : Value} {v : Value} (hR : Fw g y2 [a1, a2, a3, a4, a5] σ l v) (hy : okY y2 5) (hI : okT y2) (hlk : LK (yN y).cls idx (yN y2)) (hF : fitY y y2 = true) (hd : decode (yB y) pc = .ok (.invokestatic idx, 3)) (hcat : Nat.ble ((st.map fun v => v.category).sum) 8 = true) (hok : okF y2 110 L st) 
    (kr : GW g y k n Φ (pc + 3) L (v :: st) (mem σ l)) : GW g y k n Φ pc L (a5 :: a4 :: a3 :: a2 :: a1 :: st) (mem σ l) :=
  f_cS5n (k2 := 0) (n2 := 0) hR hy hI hlk hF hd (Nat.zero_le _) (Nat.zero_le _) hcat hok (fun v' σ' l' ⟨e, h1, h2⟩ => by cases e; subst h1; subst h2; exact kr) (fun e9 σ' l' ⟨e, h⟩ => by cases e)

theorem f_cV6n {y2 : yT} {idx k2 n2 b ci : Nat} {a1 a2 a3 a4 a5 a6 : Value} {Ψ : mO → sT → (Nat → Nat) → Prop} (hR : Fn g y2 k2 n2 (.ref b :: [a1, a2, a3, a4, a5, a6]) σ l Ψ) (hk : kd b = ci + 10) (hb : b < 110) (hci : (CL[ci]?).map (·.1) = some (yN y2).cls) (hy : okY y2 6) (hI : okI y2) (hlk : LK (yN y).cls idx (yN y2)) (hF : fitY y y2 = true) (hd : decode (yB y) pc = .ok (.invokevirtual idx, 3)) (hk2 : k2 ≤ k) (hn2 : n2 ≤ n) (hcat : Nat.ble ((st.map fun v => v.category).sum) 8 = true) (hok : okF y2 110 L st) 
    (kr : ∀ v σ' l', Ψ (.inl v) σ' l' → GW g y (k - k2) (n - n2) Φ (pc + 3) L (v.toList ++ st) (mem σ' l'))
    (kx : ∀ e σ' l', Ψ (.inr e) σ' l' → yH y = [] ∧ Φ (.inr e) (mem σ' l')) : GW g y k n Φ pc L (a6 :: a5 :: a4 :: a3 :: a2 :: a1 :: .ref b :: st) (mem σ l) :=
  f_callV (As := [a1, a2, a3, a4, a5, a6]) hR hk hb hci hy hI hlk hF hd hk2 hn2 hcat hok kr kx
theorem f_cV6i {y2 : yT} {idx k2 n2 b ci : Nat} {a1 a2 a3 a4 a5 a6 : Value} {R : Int → sT → (Nat → Nat) → Prop} (hR : Fi g y2 k2 n2 (.ref b :: [a1, a2, a3, a4, a5, a6]) σ l R) (hk : kd b = ci + 10) (hb : b < 110) (hci : (CL[ci]?).map (·.1) = some (yN y2).cls) (hy : okY y2 6) (hI : okI y2) (hlk : LK (yN y).cls idx (yN y2)) (hF : fitY y y2 = true) (hd : decode (yB y) pc = .ok (.invokevirtual idx, 3)) (hk2 : k2 ≤ k) (hn2 : n2 ≤ n) (hcat : Nat.ble ((st.map fun v => v.category).sum) 8 = true) (hok : okF y2 110 L st) 
    (kr : ∀ x σ' l', R x σ' l' → GW g y (k - k2) (n - n2) Φ (pc + 3) L (iv x :: st) (mem σ' l')) : GW g y k n Φ pc L (a6 :: a5 :: a4 :: a3 :: a2 :: a1 :: .ref b :: st) (mem σ l) :=
  f_cV6n hR hk hb hci hy hI hlk hF hd hk2 hn2 hcat hok (fun v σ' l' ⟨x, e, h⟩ => by cases e; exact kr x σ' l' h) (fun e9 σ' l' ⟨x, e, h⟩ => by cases e)
theorem f_cV6m {y2 : yT} {idx k2 n2 b ci : Nat} {a1 a2 a3 a4 a5 a6 : Value} {R : sT → (Nat → Nat) → Prop} (hR : Fu g y2 k2 n2 (.ref b :: [a1, a2, a3, a4, a5, a6]) σ l R) (hk : kd b = ci + 10) (hb : b < 110) (hci : (CL[ci]?).map (·.1) = some (yN y2).cls) (hy : okY y2 6) (hI : okI y2) (hlk : LK (yN y).cls idx (yN y2)) (hF : fitY y y2 = true) (hd : decode (yB y) pc = .ok (.invokevirtual idx, 3)) (hk2 : k2 ≤ k) (hn2 : n2 ≤ n) (hcat : Nat.ble ((st.map fun v => v.category).sum) 8 = true) (hok : okF y2 110 L st) 
    (kr : ∀ σ' l', R σ' l' → GW g y (k - k2) (n - n2) Φ (pc + 3) L st (mem σ' l')) : GW g y k n Φ pc L (a6 :: a5 :: a4 :: a3 :: a2 :: a1 :: .ref b :: st) (mem σ l) :=
  f_cV6n hR hk hb hci hy hI hlk hF hd hk2 hn2 hcat hok (fun v σ' l' ⟨e, h⟩ => by cases e; exact kr σ' l' h) (fun e9 σ' l' ⟨e, h⟩ => by cases e)
theorem f_cV6d {y2 : yT} {idx b ci : Nat} {a1 a2 a3 a4 a5 a6 : Value} {τ : sT} (hR : FO g y2 (.ref b :: [a1, a2, a3, a4, a5, a6]) σ l τ) (hk : kd b = ci + 10) (hb : b < 110) (hci : (CL[ci]?).map (·.1) = some (yN y2).cls) (hy : okY y2 6) (hI : okI y2) (hlk : LK (yN y).cls idx (yN y2)) (hF : fitY y y2 = true) (hd : decode (yB y) pc = .ok (.invokevirtual idx, 3)) (hcat : Nat.ble ((st.map fun v => v.category).sum) 8 = true) (hok : okF y2 110 L st) 
    (kr : GW g y k n Φ (pc + 3) L st (mem τ l)) : GW g y k n Φ pc L (a6 :: a5 :: a4 :: a3 :: a2 :: a1 :: .ref b :: st) (mem σ l) :=
  f_cV6n (k2 := 0) (n2 := 0) hR hk hb hci hy hI hlk hF hd (Nat.zero_le _) (Nat.zero_le _) hcat hok (fun v' σ' l' ⟨e, h1, h2⟩ => by cases e; subst h1; subst h2; exact kr) (fun e9 σ' l' ⟨e, h⟩ => by cases e)
theorem f_cV6x {y2 : yT} {idx b ci : Nat} {a1 a2 a3 a4 a5 a6 : Value} {v : Value} {τ : sT} (hR : FX g y2 (.ref b :: [a1, a2, a3, a4, a5, a6]) σ l v τ) (hk : kd b = ci + 10) (hb : b < 110) (hci : (CL[ci]?).map (·.1) = some (yN y2).cls) (hy : okY y2 6) (hI : okI y2) (hlk : LK (yN y).cls idx (yN y2)) (hF : fitY y y2 = true) (hd : decode (yB y) pc = .ok (.invokevirtual idx, 3)) (hcat : Nat.ble ((st.map fun v => v.category).sum) 8 = true) (hok : okF y2 110 L st) 
    (kr : GW g y k n Φ (pc + 3) L (v :: st) (mem τ l)) : GW g y k n Φ pc L (a6 :: a5 :: a4 :: a3 :: a2 :: a1 :: .ref b :: st) (mem σ l) :=
  f_cV6n (k2 := 0) (n2 := 0) hR hk hb hci hy hI hlk hF hd (Nat.zero_le _) (Nat.zero_le _) hcat hok (fun v' σ' l' ⟨e, h1, h2⟩ => by cases e; subst h1; subst h2; exact kr) (fun e9 σ' l' ⟨e, h⟩ => by cases e)
theorem f_cV6w {y2 : yT} {idx b ci : Nat} {a1 a2 a3 a4 a5 a6 : Value} {v : Value} (hR : Fw g y2 (.ref b :: [a1, a2, a3, a4, a5, a6]) σ l v) (hk : kd b = ci + 10) (hb : b < 110) (hci : (CL[ci]?).map (·.1) = some (yN y2).cls) (hy : okY y2 6) (hI : okI y2) (hlk : LK (yN y).cls idx (yN y2)) (hF : fitY y y2 = true) (hd : decode (yB y) pc = .ok (.invokevirtual idx, 3)) (hcat : Nat.ble ((st.map fun v => v.category).sum) 8 = true) (hok : okF y2 110 L st) 
    (kr : GW g y k n Φ (pc + 3) L (v :: st) (mem σ l)) : GW g y k n Φ pc L (a6 :: a5 :: a4 :: a3 :: a2 :: a1 :: .ref b :: st) (mem σ l) :=
  f_cV6n (k2 := 0) (n2 := 0) hR hk hb hci hy hI hlk hF hd (Nat.zero_le _) (Nat.zero_le _) hcat hok (fun v' σ' l' ⟨e, h1, h2⟩ => by cases e; subst h1; subst h2; exact kr) (fun e9 σ' l' ⟨e, h⟩ => by cases e)

theorem f_cS6n {y2 : yT} {idx k2 n2 : Nat} {a1 a2 a3 a4 a5 a6 : Value} {Ψ : mO → sT → (Nat → Nat) → Prop} (hR : Fn g y2 k2 n2 [a1, a2, a3, a4, a5, a6] σ l Ψ) (hy : okY y2 6) (hI : okT y2) (hlk : LK (yN y).cls idx (yN y2)) (hF : fitY y y2 = true) (hd : decode (yB y) pc = .ok (.invokestatic idx, 3)) (hk2 : k2 ≤ k) (hn2 : n2 ≤ n) (hcat : Nat.ble ((st.map fun v => v.category).sum) 8 = true) (hok : okF y2 110 L st) 
    (kr : ∀ v σ' l', Ψ (.inl v) σ' l' → GW g y (k - k2) (n - n2) Φ (pc + 3) L (v.toList ++ st) (mem σ' l'))
    (kx : ∀ e σ' l', Ψ (.inr e) σ' l' → yH y = [] ∧ Φ (.inr e) (mem σ' l')) : GW g y k n Φ pc L (a6 :: a5 :: a4 :: a3 :: a2 :: a1 :: st) (mem σ l) :=
  f_callS (As := [a1, a2, a3, a4, a5, a6]) hR hy hI hlk hF hd hk2 hn2 hcat hok kr kx
theorem f_cS6i {y2 : yT} {idx k2 n2 : Nat} {a1 a2 a3 a4 a5 a6 : Value} {R : Int → sT → (Nat → Nat) → Prop} (hR : Fi g y2 k2 n2 [a1, a2, a3, a4, a5, a6] σ l R) (hy : okY y2 6) (hI : okT y2) (hlk : LK (yN y).cls idx (yN y2)) (hF : fitY y y2 = true) (hd : decode (yB y) pc = .ok (.invokestatic idx, 3)) (hk2 : k2 ≤ k) (hn2 : n2 ≤ n) (hcat : Nat.ble ((st.map fun v => v.category).sum) 8 = true) (hok : okF y2 110 L st) 
    (kr : ∀ x σ' l', R x σ' l' → GW g y (k - k2) (n - n2) Φ (pc + 3) L (iv x :: st) (mem σ' l')) : GW g y k n Φ pc L (a6 :: a5 :: a4 :: a3 :: a2 :: a1 :: st) (mem σ l) :=
  f_cS6n hR hy hI hlk hF hd hk2 hn2 hcat hok (fun v σ' l' ⟨x, e, h⟩ => by cases e; exact kr x σ' l' h) (fun e9 σ' l' ⟨x, e, h⟩ => by cases e)
theorem f_cS6m {y2 : yT} {idx k2 n2 : Nat} {a1 a2 a3 a4 a5 a6 : Value} {R : sT → (Nat → Nat) → Prop} (hR : Fu g y2 k2 n2 [a1, a2, a3, a4, a5, a6] σ l R) (hy : okY y2 6) (hI : okT y2) (hlk : LK (yN y).cls idx (yN y2)) (hF : fitY y y2 = true) (hd : decode (yB y) pc = .ok (.invokestatic idx, 3)) (hk2 : k2 ≤ k) (hn2 : n2 ≤ n) (hcat : Nat.ble ((st.map fun v => v.category).sum) 8 = true) (hok : okF y2 110 L st) 
    (kr : ∀ σ' l', R σ' l' → GW g y (k - k2) (n - n2) Φ (pc + 3) L st (mem σ' l')) : GW g y k n Φ pc L (a6 :: a5 :: a4 :: a3 :: a2 :: a1 :: st) (mem σ l) :=
  f_cS6n hR hy hI hlk hF hd hk2 hn2 hcat hok (fun v σ' l' ⟨e, h⟩ => by cases e; exact kr σ' l' h) (fun e9 σ' l' ⟨e, h⟩ => by cases e)
theorem f_cS6d {y2 : yT} {idx : Nat} {a1 a2 a3 a4 a5 a6 : Value} {τ : sT} (hR : FO g y2 [a1, a2, a3, a4, a5, a6] σ l τ) (hy : okY y2 6) (hI : okT y2) (hlk : LK (yN y).cls idx (yN y2)) (hF : fitY y y2 = true) (hd : decode (yB y) pc = .ok (.invokestatic idx, 3)) (hcat : Nat.ble ((st.map fun v => v.category).sum) 8 = true) (hok : okF y2 110 L st) 
    (kr : GW g y k n Φ (pc + 3) L st (mem τ l)) : GW g y k n Φ pc L (a6 :: a5 :: a4 :: a3 :: a2 :: a1 :: st) (mem σ l) :=
  f_cS6n (k2 := 0) (n2 := 0) hR hy hI hlk hF hd (Nat.zero_le _) (Nat.zero_le _) hcat hok (fun v' σ' l' ⟨e, h1, h2⟩ => by cases e; subst h1; subst h2; exact kr) (fun e9 σ' l' ⟨e, h⟩ => by cases e)
theorem f_cS6x {y2 : yT} {idx : Nat} {a1 a2 a3 a4 a5 a6 : Value} {v : Value} {τ : sT} (hR : FX g y2 [a1, a2, a3, a4, a5, a6] σ l v τ) (hy : okY y2 6) (hI : okT y2) (hlk : LK (yN y).cls idx (yN y2)) (hF : fitY y y2 = true) (hd : decode (yB y) pc = .ok (.invokestatic idx, 3)) (hcat : Nat.ble ((st.map fun v => v.category).sum) 8 = true) (hok : okF y2 110 L st) 
    (kr : GW g y k n Φ (pc + 3) L (v :: st) (mem τ l)) : GW g y k n Φ pc L (a6 :: a5 :: a4 :: a3 :: a2 :: a1 :: st) (mem σ l) :=
  f_cS6n (k2 := 0) (n2 := 0) hR hy hI hlk hF hd (Nat.zero_le _) (Nat.zero_le _) hcat hok (fun v' σ' l' ⟨e, h1, h2⟩ => by cases e; subst h1; subst h2; exact kr) (fun e9 σ' l' ⟨e, h⟩ => by cases e)
theorem f_cS6w {y2 : yT} {idx : Nat} {a1 a2 a3 a4 a5 a6 : Value} {v : Value} (hR : Fw g y2 [a1, a2, a3, a4, a5, a6] σ l v) (hy : okY y2 6) (hI : okT y2) (hlk : LK (yN y).cls idx (yN y2)) (hF : fitY y y2 = true) (hd : decode (yB y) pc = .ok (.invokestatic idx, 3)) (hcat : Nat.ble ((st.map fun v => v.category).sum) 8 = true) (hok : okF y2 110 L st) 
    (kr : GW g y k n Φ (pc + 3) L (v :: st) (mem σ l)) : GW g y k n Φ pc L (a6 :: a5 :: a4 :: a3 :: a2 :: a1 :: st) (mem σ l) :=
  f_cS6n (k2 := 0) (n2 := 0) hR hy hI hlk hF hd (Nat.zero_le _) (Nat.zero_le _) hcat hok (fun v' σ' l' ⟨e, h1, h2⟩ => by cases e; subst h1; subst h2; exact kr) (fun e9 σ' l' ⟨e, h⟩ => by cases e)

theorem Fw.ret {x v : Int} (h : x = v) : fΦ (fun o σ' l' => o = .inl (some (iv v)) ∧ σ' = σ ∧ l' = l) (.inl (some (iv x))) (mem σ l) := ⟨σ, l, rfl, by rw [h], rfl, rfl⟩
theorem Fw.retV {x v : Value} (h : x = v) : fΦ (fun o σ' l' => o = .inl (some v) ∧ σ' = σ ∧ l' = l) (.inl (some x)) (mem σ l) := ⟨σ, l, rfl, by rw [h], rfl, rfl⟩
theorem Fw.ret1 {P : Prop} [Decidable P] (h : P) : fΦ (fun o σ' l' => o = .inl (some (bv P)) ∧ σ' = σ ∧ l' = l) (.inl (some (iv 1))) (mem σ l) := ⟨σ, l, rfl, by simp [bv, h], rfl, rfl⟩
theorem Fw.ret0 {P : Prop} [Decidable P] (h : ¬ P) : fΦ (fun o σ' l' => o = .inl (some (bv P)) ∧ σ' = σ ∧ l' = l) (.inl (some (iv 0))) (mem σ l) := ⟨σ, l, rfl, by simp [bv, h], rfl, rfl⟩
theorem FO.ret {τ : sT} (h : σ = τ) : fΦ (fun o σ' l' => o = .inl none ∧ σ' = τ ∧ l' = l) (.inl none) (mem σ l) := ⟨σ, l, rfl, rfl, h, rfl⟩
theorem FX.ret {τ : sT} {x v : Int} (h : x = v) (h2 : σ = τ) : fΦ (fun o σ' l' => o = .inl (some (iv v)) ∧ σ' = τ ∧ l' = l) (.inl (some (iv x))) (mem σ l) := ⟨σ, l, rfl, by rw [h], h2, rfl⟩
theorem Fi.ret {R : Int → sT → (Nat → Nat) → Prop} {x : Int} (h : R x σ l) : fΦ (fun o σ' l' => ∃ x, o = .inl (some (iv x)) ∧ R x σ' l') (.inl (some (iv x))) (mem σ l) := ⟨σ, l, rfl, x, rfl, h⟩
theorem Fu.ret {R : sT → (Nat → Nat) → Prop} (h : R σ l) : fΦ (fun o σ' l' => o = .inl none ∧ R σ' l') (.inl none) (mem σ l) := ⟨σ, l, rfl, rfl, h⟩
theorem fn_ret {Ψ : mO → sT → (Nat → Nat) → Prop} {o : mO} (h : Ψ o σ l) : fΦ Ψ o (mem σ l) := ⟨σ, l, rfl, h⟩
theorem g_iretI {x : Int} {Φ : mO → mM → Prop} {M : mM} (hr : yR y = some .int) (hd : decode (yB y) pc = .ok (.ireturn, 1)) (h : Φ (.inl (some (iv x))) M) : GW g y k n Φ pc L [iv x] M := g_ireturn hr rfl hd h
theorem nar_b {x : Int} (h : x = 0 ∨ x = 1) : narrow .boolean (iv x) = iv x := by rcases h with rfl | rfl <;> rfl
theorem g_iretB {x : Int} {Φ : mO → mM → Prop} {M : mM} (hx : x = 0 ∨ x = 1) (hr : yR y = some .boolean) (hd : decode (yB y) pc = .ok (.ireturn, 1)) (h : Φ (.inl (some (iv x))) M) : GW g y k n Φ pc L [iv x] M := g_ireturn hr (nar_b hx) hd h
theorem g_iretP {Q : Prop} [Decidable Q] {Φ : mO → mM → Prop} {M : mM} (hr : yR y = some .boolean) (hd : decode (yB y) pc = .ok (.ireturn, 1)) (h : Φ (.inl (some (bv Q))) M) : GW g y k n Φ pc L [bv Q] M := g_ireturn hr (nar_b (by by_cases h : Q <;> simp [h])) hd h
end GC13
