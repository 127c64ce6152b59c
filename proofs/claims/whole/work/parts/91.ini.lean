/-! Constructors: the memory grows by name order -/
section C91
theorem ap_get {P c : mM} {n i : Nat} (hn : P.length = n) : (P ++ c)[n + i]? = c[i]? := by
  rw [List.getElem?_append_right (by omega), hn, Nat.add_sub_cancel_left]
theorem ap_set {P c : mM} {n i : Nat} {x : mC} (hn : P.length = n) : (P ++ c).set (n + i) x = P ++ c.set i x := by
  rw [List.set_append_right (n + i) x (by omega), hn, Nat.add_sub_cancel_left]
def bV (len : Nat) : Value → Bool
  | .ref n => (decide (n < len) || decide (KB ≤ n)) && (ownr n).isNone
  | _ => true
def bS (len : Nat) : List Value → Bool
  | [] => true
  | v :: t => bV len v && bS len t
def bL (len : Nat) : List (Option Value) → Bool
  | [] => true
  | some v :: t => bV len v && bL len t
  | none :: t => bL len t
theorem bV_of {len : Nat} {v : Value} (h : bV len v = true) : okV len v := by
  cases v <;> try trivial
  simp only [bV, Bool.and_eq_true, Bool.or_eq_true, decide_eq_true_eq, Option.isNone_iff_eq_none] at h
  exact h
theorem bS_of {len : Nat} : ∀ {st : List Value}, bS len st = true → okS len st := by
  intro st
  induction st with
  | nil => intro _; trivial
  | cons v t ih =>
    intro h
    simp only [bS, Bool.and_eq_true] at h
    exact ⟨bV_of h.1, ih h.2⟩
theorem bL_of {len : Nat} : ∀ {L : List (Option Value)}, bL len L = true → okL len L := by
  intro L
  induction L with
  | nil => intro _; trivial
  | cons v t ih =>
    intro h
    cases v with
    | none => exact ⟨trivial, ih h⟩
    | some v =>
      simp only [bL, Bool.and_eq_true] at h
      exact ⟨bV_of h.1, ih h.2⟩
def zI (n : Nat) : mC := .inl (0, n, .inl (fun _ => 0))
def zL (n : Nat) : mC := .inl (1, n, .inr (.inl (fun _ => 0)))
def zZ (n : Nat) : mC := .inl (2, n, .inl (fun _ => 0))
def zQ (n : Nat) : mC := .inl (4, n, .inr (.inr (.inr (.inr (fun _ => none)))))
section
variable {g : gT} {y : yT} {k n : Nat} {Φ : mO → mM → Prop} {pc : Nat} {L : List (Option Value)} {st : List Value} {P cs : mM} {n0 j : Nat}
theorem n_nrm (cs' : mM) (e : cs = cs') (h : GW g y k n Φ pc L st (P ++ cs')) : GW g y k n Φ pc L st (P ++ cs) := by rw [e]; exact h
theorem n_put {i ci kf idx o : Nat} {v : Value} {fs : List Value} (hn : P.length = n0) (ho : n0 + i = o) (hc : cs[i]? = some (.inr (ci, fs))) (hf : FL (yN y).cls idx ci kf) (hfin : ∀ C T N, CL[ci]? = some (C, T, N) → (T kf).2.2.2 = false) (hv : (∃ x, v = .int x) ∨ ∃ r, v = .ref (n0 + r) ∧ r < cs.length ∧ (ownr (n0 + r) = none ∨ ownr (n0 + r) = some (o, kf))) (hnar : ∀ ν, narrow (ty_of ci kf) (rV g ν v) = rV g ν v) (hfit : ∀ ν, fits (ty_of ci kf) (rV g ν v) = true) (hl0 : kf < fs.length) (hd : decode (yB y) pc = .ok (.putfield idx, 3)) (h : GW g y k n Φ (pc + 3) L st (P ++ cs.set i (.inr (ci, fs.set kf v)))) : GW g y k n Φ pc L (v :: .ref o :: st) (P ++ cs) := by
  subst ho
  refine g_put hf hfin ((ap_get hn).trans hc) ⟨?_, ?_⟩ hnar hfit hl0 hd ?_
  · rcases hv with ⟨x, rfl⟩ | ⟨r, rfl, hr, _⟩
    · rfl
    · have hlt : n0 + r < (P ++ cs).length := by rw [List.length_append, hn]; exact Nat.add_lt_add_left hr n0
      show (decide (n0 + r < (P ++ cs).length) || _) = true
      rw [decide_eq_true hlt]
      rfl
  · intro q ow h1 h2
    rcases hv with ⟨x, rfl⟩ | ⟨r, rfl, hr, hw⟩
    · cases h1
    · cases h1
      rcases hw with hw | hw
      · rw [hw] at h2; cases h2
      · rw [hw] at h2; cases h2; rfl
  · rw [ap_set hn]; exact h
theorem n_putF {i ci kf idx o : Nat} {v : Value} {fs : List Value} (hn : P.length = n0) (ho : n0 + i = o) (hc : cs[i]? = some (.inr (ci, fs))) (hf : ∃ C T N, CL[ci]? = some (C, T, N) ∧ kf < N ∧ (T kf).1 = C ∧ C = (yN y).cls ∧ Cond.fieldLink (yN y).cls idx C (T kf).2.1 (T kf).2.2.1 ∈ WS) (hfin : ∀ C T N, CL[ci]? = some (C, T, N) → (T kf).2.2.2 = true) (hnm : (yN y).name = "<init>") (hv : (∃ x, v = .int x) ∨ ∃ r, v = .ref (n0 + r) ∧ r < cs.length ∧ (ownr (n0 + r) = none ∨ ownr (n0 + r) = some (o, kf))) (hnar : ∀ ν, narrow (ty_of ci kf) (rV g ν v) = rV g ν v) (hfit : ∀ ν, fits (ty_of ci kf) (rV g ν v) = true) (hl0 : kf < fs.length) (hd : decode (yB y) pc = .ok (.putfield idx, 3)) (h : GW g y k n Φ (pc + 3) L st (P ++ cs.set i (.inr (ci, fs.set kf v)))) : GW g y k n Φ pc L (v :: .ref o :: st) (P ++ cs) := by
  subst ho
  refine g_putF hf hfin hnm ((ap_get hn).trans hc) ⟨?_, ?_⟩ hnar hfit hl0 hd ?_
  · rcases hv with ⟨x, rfl⟩ | ⟨r, rfl, hr, _⟩
    · rfl
    · have hlt : n0 + r < (P ++ cs).length := by rw [List.length_append, hn]; exact Nat.add_lt_add_left hr n0
      show (decide (n0 + r < (P ++ cs).length) || _) = true
      rw [decide_eq_true hlt]
      rfl
  · intro q ow h1 h2
    rcases hv with ⟨x, rfl⟩ | ⟨r, rfl, hr, hw⟩
    · cases h1
    · cases h1
      rcases hw with hw | hw
      · rw [hw] at h2; cases h2
      · rw [hw] at h2; cases h2; rfl
  · rw [ap_set hn]; exact h
theorem n_newI {N q : Nat} (hn : P.length = n0) (hj : cs.length = j) (hq : n0 + j = q) (hk2 : 2 ≤ yK y) (hb : q < KB) (hok : okL q L ∧ okS q st) (hN : N ≤ 1000000) (hd : decode (yB y) pc = .ok (.newarray .int, 2)) (hk1 : 1 ≤ k) (hn1 : N ≤ n) (h : GW g y (k - 1) (n - N) Φ (pc + 2) L (.ref q :: st) (P ++ (cs ++ [zI N]))) : GW g y k n Φ pc L (iv N :: st) (P ++ cs) := by
  have e : (P ++ cs).length = q := by rw [List.length_append, hn, hj, hq]
  refine g_newI hk2 (by rw [e]; exact hb) (by rw [e]; exact hok) hN hd hk1 hn1 ?_
  rw [e, List.append_assoc]; exact h
theorem n_newL {N q : Nat} (hn : P.length = n0) (hj : cs.length = j) (hq : n0 + j = q) (hk2 : 2 ≤ yK y) (hb : q < KB) (hok : okL q L ∧ okS q st) (hN : N ≤ 1000000) (hd : decode (yB y) pc = .ok (.newarray .long, 2)) (hk1 : 1 ≤ k) (hn1 : N ≤ n) (h : GW g y (k - 1) (n - N) Φ (pc + 2) L (.ref q :: st) (P ++ (cs ++ [zL N]))) : GW g y k n Φ pc L (iv N :: st) (P ++ cs) := by
  have e : (P ++ cs).length = q := by rw [List.length_append, hn, hj, hq]
  refine g_newL hk2 (by rw [e]; exact hb) (by rw [e]; exact hok) hN hd hk1 hn1 ?_
  rw [e, List.append_assoc]; exact h
theorem n_newZ {N q : Nat} (hn : P.length = n0) (hj : cs.length = j) (hq : n0 + j = q) (hk2 : 2 ≤ yK y) (hb : q < KB) (hok : okL q L ∧ okS q st) (hN : N ≤ 1000000) (hd : decode (yB y) pc = .ok (.newarray .boolean, 2)) (hk1 : 1 ≤ k) (hn1 : N ≤ n) (h : GW g y (k - 1) (n - N) Φ (pc + 2) L (.ref q :: st) (P ++ (cs ++ [zZ N]))) : GW g y k n Φ pc L (iv N :: st) (P ++ cs) := by
  have e : (P ++ cs).length = q := by rw [List.length_append, hn, hj, hq]
  refine g_newZ hk2 (by rw [e]; exact hb) (by rw [e]; exact hok) hN hd hk1 hn1 ?_
  rw [e, List.append_assoc]; exact h
theorem n_newQ {idx N q : Nat} (hn : P.length = n0) (hj : cs.length = j) (hq : n0 + j = q) (hk2 : 2 ≤ yK y) (hb : q < KB) (hok : okL q L ∧ okS q st) (hw : Cond.classLink (yN y).cls idx "HoleWhistle$State" ∈ WS) (hN : N ≤ 1000000) (hd : decode (yB y) pc = .ok (.anewarray idx, 3)) (hk1 : 1 ≤ k) (hn1 : N ≤ n) (h : GW g y (k - 1) (n - N) Φ (pc + 3) L (.ref q :: st) (P ++ (cs ++ [zQ N]))) : GW g y k n Φ pc L (iv N :: st) (P ++ cs) := by
  have e : (P ++ cs).length = q := by rw [List.length_append, hn, hj, hq]
  refine g_newQ hk2 (by rw [e]; exact hb) (by rw [e]; exact hok) hw hN hd hk1 hn1 ?_
  rw [e, List.append_assoc]; exact h
theorem n_new {idx ci N q : Nat} {Cn : String} {T : u_T} {fs : List Value} (hn : P.length = n0) (hj : cs.length = j) (hq : n0 + j = q) (hk2 : 2 ≤ yK y) (hb : q < KB) (hok : okL q L ∧ okS q st) (hC : CL[ci]? = some (Cn, T, N)) (hw : Cond.classLink (yN y).cls idx Cn ∈ WS) (hi : Cond.instantiable Cn N ∈ WS ∧ Cond.initialized Cn ∈ WS) (hfs : ∀ j, j < N → defaultValue (ty_of ci j) = vp_V fs j) (hnr : ∀ v ∈ fs, ∀ q, v ≠ .ref q) (hd : decode (yB y) pc = .ok (.new idx, 3)) (hk1 : 1 ≤ k) (hn1 : N ≤ n) (h : GW g y (k - 1) (n - N) Φ (pc + 3) L (.ref q :: st) (P ++ (cs ++ [.inr (ci, fs)]))) : GW g y k n Φ pc L st (P ++ cs) := by
  have e : (P ++ cs).length = q := by rw [List.length_append, hn, hj, hq]
  refine g_new hk2 (by rw [e]; exact hb) (by rw [e]; exact hok) hC hw hi hfs hnr hd hk1 hn1 ?_
  rw [e, List.append_assoc]; exact h
/-- a constructor, of the object made last -/
theorem n_call {y2 : yT} {idx k2 n2 q ci : Nat} {fs : List Value} {R : mM} (hR : ∀ Q : mM, Q.length = q → Rn g y2 k2 n2 [.ref q] (Q ++ [.inr (ci, fs)]) (fun o M => o = .inl none ∧ M = Q ++ R)) (hn : P.length = n0) (hj : cs.length = j) (hq : n0 + j = q) (hy : okY y2 0) (hI : okN y2) (hlk : LK (yN y).cls idx (yN y2)) (hF : fitY y y2 = true) (hd : decode (yB y) pc = .ok (.invokespecial idx, 3)) (hk2 : k2 ≤ k) (hn2 : n2 ≤ n) (hcat : Nat.ble ((st.map fun v => v.category).sum) 8 = true) (hok : okL (q + 1) L ∧ okS (q + 1) st)
    (h : GW g y (k - k2) (n - n2) Φ (pc + 3) L st (P ++ (cs ++ R))) : GW g y k n Φ pc L (.ref q :: st) (P ++ (cs ++ [.inr (ci, fs)])) := by
  have e : (P ++ cs).length = q := by rw [List.length_append, hn, hj, hq]
  have hc := hR (P ++ cs) e
  rw [List.append_assoc, List.append_assoc] at hc
  refine g_callI (As := []) (ci := ci) (fs := fs) hc ?_ hy hI hlk hF hd hk2 hn2 (Nat.le_of_ble_eq_true hcat) (Or.inr ?_) (fun v M' hM => ?_) (fun e9 M' hM => ?_)
  · rw [← List.append_assoc, List.getElem?_append_right (by omega), e, Nat.sub_self]; rfl
  · rw [← List.append_assoc, List.length_append, e]; exact hok
  · obtain ⟨h1, rfl⟩ := hM
    cases h1
    exact h
  · cases hM.1
theorem n_alen {t i o : Nat} {x : vp_A} (hn : P.length = n0) (ho : n0 + i = o) (hc : cs[i]? = some (.inl (t, x))) (ht : t < 5) (hd : decode (yB y) pc = .ok (.arraylength, 1)) (h : GW g y k n Φ (pc + 1) L (iv x.1 :: st) (P ++ cs)) : GW g y k n Φ pc L (.ref o :: st) (P ++ cs) := by
  subst ho
  exact g_alen ht ((ap_get hn).trans hc) hd h
theorem n_get {i ci kf idx o : Nat} {v : Value} {fs : List Value} (hn : P.length = n0) (ho : n0 + i = o) (hc : cs[i]? = some (.inr (ci, fs))) (hf : FL (yN y).cls idx ci kf) (hv : fs[kf]? = some v) (hd : decode (yB y) pc = .ok (.getfield idx, 3)) (h : GW g y k n Φ (pc + 3) L (v :: st) (P ++ cs)) : GW g y k n Φ pc L (.ref o :: st) (P ++ cs) := by
  subst ho
  exact g_get hf ((ap_get hn).trans hc) hv hd h
theorem n_aast {i r o q N : Nat} {f : Nat → Option Nat} {x : Int} {vs : List Value} (hn : P.length = n0) (ho : n0 + i = o) (hr : n0 + r = q) (hc : cs[i]? = some (.inl (4, N, .inr (.inr (.inr (.inr f)))))) (hq : cs[r]? = some (.inr (3, vs))) (hqo : ownr q = none) (hx : 0 ≤ x ∧ x < N) (hN : x ≤ 2147483647) (hd : decode (yB y) pc = .ok (.aastore, 1)) (h : GW g y k n Φ (pc + 1) L st (P ++ cs.set i (.inl (4, N, .inr (.inr (.inr (.inr (va_up f x.toNat (some q))))))))) : GW g y k n Φ pc L (.ref q :: iv x :: .ref o :: st) (P ++ cs) := by
  subst ho
  subst hr
  refine g_aast ((ap_get hn).trans hc) ((ap_get hn).trans hq) hqo hx hN hd ?_
  rw [ap_set hn]; exact h
theorem n_iast {i o N : Nat} {f : Nat → Int32} {x : Int} {v : Int32} (hn : P.length = n0) (ho : n0 + i = o) (hc : cs[i]? = some (.inl (0, N, .inl f))) (hx : 0 ≤ x ∧ x < N) (hN : x ≤ 2147483647) (hd : decode (yB y) pc = .ok (.iastore, 1)) (h : GW g y k n Φ (pc + 1) L st (P ++ cs.set i (.inl (0, N, .inl (upd f x.toNat v))))) : GW g y k n Φ pc L (.int v :: iv x :: .ref o :: st) (P ++ cs) := by
  subst ho
  refine g_iast ((ap_get hn).trans hc) hx hN hd ?_
  rw [ap_set hn]; exact h
theorem n_oinit {i idx o : Nat} {c0 : mC} (hn : P.length = n0) (ho : n0 + i = o) (hc : cs[i]? = some c0) (hw : Cond.methodLink (yN y).cls idx Lib.objectInit ∈ WS) (hroom : 1 ≤ yF y ∧ (st.map fun v => v.category).sum + 12 ≤ yL y) (hd : decode (yB y) pc = .ok (.invokespecial idx, 3)) (h : GW g y k n Φ (pc + 3) L st (P ++ cs)) : GW g y k n Φ pc L (.ref o :: st) (P ++ cs) := by
  subst ho
  exact g_objInit ((ap_get hn).trans hc) hw hroom hd h
end
def nw0 : List Value := [.null, .null, .null, .null, .null, .null, .null]
theorem nwD0 : ∀ j, j < 7 → defaultValue (ty_of 0 j) = vp_V nw0 j := by
  intro j hj
  rcases j with _ | _ | _ | _ | _ | _ | _ | j
  all_goals first | rfl | omega
theorem nwR0 : ∀ v ∈ nw0, ∀ q, v ≠ .ref q := by
  intro v hv q h
  subst h
  simp [nw0] at hv
def nw1 : List Value := [iv 0, .null, .null, .null, .null, .null, .null]
theorem nwD1 : ∀ j, j < 7 → defaultValue (ty_of 1 j) = vp_V nw1 j := by
  intro j hj
  rcases j with _ | _ | _ | _ | _ | _ | _ | j
  all_goals first | rfl | omega
theorem nwR1 : ∀ v ∈ nw1, ∀ q, v ≠ .ref q := by
  intro v hv q h
  subst h
  simp [nw1] at hv
def nw2 : List Value := [.null, iv 0, iv 0, iv 0, iv 0, .null, iv 0, iv 0, iv 0, iv 0, iv 0, .null]
theorem nwD2 : ∀ j, j < 12 → defaultValue (ty_of 2 j) = vp_V nw2 j := by
  intro j hj
  rcases j with _ | _ | _ | _ | _ | _ | _ | _ | _ | _ | _ | _ | j
  all_goals first | rfl | omega
theorem nwR2 : ∀ v ∈ nw2, ∀ q, v ≠ .ref q := by
  intro v hv q h
  subst h
  simp [nw2] at hv
def nw3 : List Value := [iv 0, iv 0, iv 0, iv 0, iv 0, iv 0, iv 0, iv 0, iv 0, iv 0, iv 0, iv 0, iv 0, .null, .null, .null]
theorem nwD3 : ∀ j, j < 16 → defaultValue (ty_of 3 j) = vp_V nw3 j := by
  intro j hj
  rcases j with _ | _ | _ | _ | _ | _ | _ | _ | _ | _ | _ | _ | _ | _ | _ | _ | j
  all_goals first | rfl | omega
theorem nwR3 : ∀ v ∈ nw3, ∀ q, v ≠ .ref q := by
  intro v hv q h
  subst h
  simp [nw3] at hv
def nw4 : List Value := [iv 0, .null, .null, .null, .null, .null]
theorem nwD4 : ∀ j, j < 6 → defaultValue (ty_of 4 j) = vp_V nw4 j := by
  intro j hj
  rcases j with _ | _ | _ | _ | _ | _ | j
  all_goals first | rfl | omega
theorem nwR4 : ∀ v ∈ nw4, ∀ q, v ≠ .ref q := by
  intro v hv q h
  subst h
  simp [nw4] at hv
def nw5 : List Value := [.null, .null, .null, iv 0, iv 0, .null, .null, .null, .null, iv 0, .null, .null, .null, .null, .null, iv 0]
theorem nwD5 : ∀ j, j < 16 → defaultValue (ty_of 5 j) = vp_V nw5 j := by
  intro j hj
  rcases j with _ | _ | _ | _ | _ | _ | _ | _ | _ | _ | _ | _ | _ | _ | _ | _ | j
  all_goals first | rfl | omega
theorem nwR5 : ∀ v ∈ nw5, ∀ q, v ≠ .ref q := by
  intro v hv q h
  subst h
  simp [nw5] at hv
def nw6 : List Value := [.null, .null, .null, .null, .null, iv 0, iv 0, .null, .null, .null, .null, .null, .null, .null, .null, iv 0, iv 0, iv 0, iv 0, iv 0, iv 0, iv 0, iv 0, .null, .null, iv 0]
theorem nwD6 : ∀ j, j < 26 → defaultValue (ty_of 6 j) = vp_V nw6 j := by
  intro j hj
  rcases j with _ | _ | _ | _ | _ | _ | _ | _ | _ | _ | _ | _ | _ | _ | _ | _ | _ | _ | _ | _ | _ | _ | _ | _ | _ | _ | j
  all_goals first | rfl | omega
theorem nwR6 : ∀ v ∈ nw6, ∀ q, v ≠ .ref q := by
  intro v hv q h
  subst h
  simp [nw6] at hv
def mkSB (n0 : Nat) : mM := [.inr (3, [iv 300, iv 12, iv 30, iv 1, iv 1, iv 1, iv 2, iv 1, iv 0, iv 0, iv 0, iv 0, iv 0, .ref (n0 + 1), .ref (n0 + 2), .ref (n0 + 3)]), zI 7, zI 7, zI 40]
theorem mkS_ok {g : gT} {P : mM} {n0 : Nat} (hn : P.length = n0) (hb : n0 + 10 < 1000000) (ho0 : ownr n0 = none) (ho : ∀ i, i < 4 → ownr (n0 + i) = none) : Rn g zX3_init 3 54 [.ref n0] (P ++ [.inr (3, nw3)]) (fun o M => o = .inl none ∧ M = P ++ mkSB n0) := by
  have hKB : KB = 1000000 := rfl
  refine Rn.of [some (.ref n0)] rfl (by decide) (Nat.le_of_ble_eq_true rfl) rfl ?_
  refine g_aload0 dX3_init_0 ?_
  refine n_oinit (i := 0) hn rfl rfl (tt1 32 rfl rfl) ⟨by decide, by decide⟩ dX3_init_1 ?_
  refine g_aload0 dX3_init_4 ?_
  refine g_sipush dX3_init_5 (by decide) ?_
  refine n_put (i := 0) hn rfl rfl fl_X3_9 (fun _ _ _ h => by cases h; rfl) (Or.inl ⟨_, rfl⟩) (fun _ => rfl) (fun _ => rfl) (show 1 ≤ _ from Nat.le_of_ble_eq_true rfl) dX3_init_8 ?_
  refine n_nrm [.inr (3, [iv 300, iv 0, iv 0, iv 0, iv 0, iv 0, iv 0, iv 0, iv 0, iv 0, iv 0, iv 0, iv 0, .null, .null, .null])] rfl ?_
  refine g_aload0 dX3_init_11 ?_
  refine g_bipush dX3_init_12 (by decide) ?_
  refine n_put (i := 0) hn rfl rfl fl_X3_15 (fun _ _ _ h => by cases h; rfl) (Or.inl ⟨_, rfl⟩) (fun _ => rfl) (fun _ => rfl) (show 2 ≤ _ from Nat.le_of_ble_eq_true rfl) dX3_init_14 ?_
  refine n_nrm [.inr (3, [iv 300, iv 12, iv 0, iv 0, iv 0, iv 0, iv 0, iv 0, iv 0, iv 0, iv 0, iv 0, iv 0, .null, .null, .null])] rfl ?_
  refine g_aload0 dX3_init_17 ?_
  refine g_bipush dX3_init_18 (by decide) ?_
  refine n_put (i := 0) hn rfl rfl fl_X3_18 (fun _ _ _ h => by cases h; rfl) (Or.inl ⟨_, rfl⟩) (fun _ => rfl) (fun _ => rfl) (show 3 ≤ _ from Nat.le_of_ble_eq_true rfl) dX3_init_20 ?_
  refine n_nrm [.inr (3, [iv 300, iv 12, iv 30, iv 0, iv 0, iv 0, iv 0, iv 0, iv 0, iv 0, iv 0, iv 0, iv 0, .null, .null, .null])] rfl ?_
  refine g_aload0 dX3_init_23 ?_
  refine g_iconst dX3_init_24 ?_
  refine n_put (i := 0) hn rfl rfl fl_X3_21 (fun _ _ _ h => by cases h; rfl) (Or.inl ⟨_, rfl⟩) (fun _ => rfl) (fun _ => rfl) (show 4 ≤ _ from Nat.le_of_ble_eq_true rfl) dX3_init_25 ?_
  refine n_nrm [.inr (3, [iv 300, iv 12, iv 30, iv 1, iv 0, iv 0, iv 0, iv 0, iv 0, iv 0, iv 0, iv 0, iv 0, .null, .null, .null])] rfl ?_
  refine g_aload0 dX3_init_28 ?_
  refine g_iconst dX3_init_29 ?_
  refine n_put (i := 0) hn rfl rfl fl_X3_24 (fun _ _ _ h => by cases h; rfl) (Or.inl ⟨_, rfl⟩) (fun _ => rfl) (fun _ => rfl) (show 5 ≤ _ from Nat.le_of_ble_eq_true rfl) dX3_init_30 ?_
  refine n_nrm [.inr (3, [iv 300, iv 12, iv 30, iv 1, iv 1, iv 0, iv 0, iv 0, iv 0, iv 0, iv 0, iv 0, iv 0, .null, .null, .null])] rfl ?_
  refine g_aload0 dX3_init_33 ?_
  refine g_iconst dX3_init_34 ?_
  refine n_put (i := 0) hn rfl rfl fl_X3_27 (fun _ _ _ h => by cases h; rfl) (Or.inl ⟨_, rfl⟩) (fun _ => rfl) (fun _ => rfl) (show 6 ≤ _ from Nat.le_of_ble_eq_true rfl) dX3_init_35 ?_
  refine n_nrm [.inr (3, [iv 300, iv 12, iv 30, iv 1, iv 1, iv 1, iv 0, iv 0, iv 0, iv 0, iv 0, iv 0, iv 0, .null, .null, .null])] rfl ?_
  refine g_aload0 dX3_init_38 ?_
  refine g_iconst dX3_init_39 ?_
  refine n_put (i := 0) hn rfl rfl fl_X3_30 (fun _ _ _ h => by cases h; rfl) (Or.inl ⟨_, rfl⟩) (fun _ => rfl) (fun _ => rfl) (show 7 ≤ _ from Nat.le_of_ble_eq_true rfl) dX3_init_40 ?_
  refine n_nrm [.inr (3, [iv 300, iv 12, iv 30, iv 1, iv 1, iv 1, iv 2, iv 0, iv 0, iv 0, iv 0, iv 0, iv 0, .null, .null, .null])] rfl ?_
  refine g_aload0 dX3_init_43 ?_
  refine g_iconst dX3_init_44 ?_
  refine n_put (i := 0) hn rfl rfl fl_X3_33 (fun _ _ _ h => by cases h; rfl) (Or.inl ⟨_, rfl⟩) (fun _ => rfl) (fun _ => rfl) (show 8 ≤ _ from Nat.le_of_ble_eq_true rfl) dX3_init_45 ?_
  refine n_nrm [.inr (3, [iv 300, iv 12, iv 30, iv 1, iv 1, iv 1, iv 2, iv 1, iv 0, iv 0, iv 0, iv 0, iv 0, .null, .null, .null])] rfl ?_
  refine g_aload0 dX3_init_48 ?_
  refine g_iconst dX3_init_49 ?_
  refine n_put (i := 0) hn rfl rfl fl_X3_36 (fun _ _ _ h => by cases h; rfl) (Or.inl ⟨_, rfl⟩) (fun _ => rfl) (fun _ => rfl) (show 9 ≤ _ from Nat.le_of_ble_eq_true rfl) dX3_init_50 ?_
  refine n_nrm [.inr (3, [iv 300, iv 12, iv 30, iv 1, iv 1, iv 1, iv 2, iv 1, iv 0, iv 0, iv 0, iv 0, iv 0, .null, .null, .null])] rfl ?_
  refine g_aload0 dX3_init_53 ?_
  refine g_iconst dX3_init_54 ?_
  refine n_put (i := 0) hn rfl rfl fl_X3_39 (fun _ _ _ h => by cases h; rfl) (Or.inl ⟨_, rfl⟩) (fun _ => rfl) (fun _ => rfl) (show 10 ≤ _ from Nat.le_of_ble_eq_true rfl) dX3_init_55 ?_
  refine n_nrm [.inr (3, [iv 300, iv 12, iv 30, iv 1, iv 1, iv 1, iv 2, iv 1, iv 0, iv 0, iv 0, iv 0, iv 0, .null, .null, .null])] rfl ?_
  refine g_aload0 dX3_init_58 ?_
  refine g_iconst dX3_init_59 ?_
  refine n_put (i := 0) hn rfl rfl fl_X3_42 (fun _ _ _ h => by cases h; rfl) (Or.inl ⟨_, rfl⟩) (fun _ => rfl) (fun _ => rfl) (show 11 ≤ _ from Nat.le_of_ble_eq_true rfl) dX3_init_60 ?_
  refine n_nrm [.inr (3, [iv 300, iv 12, iv 30, iv 1, iv 1, iv 1, iv 2, iv 1, iv 0, iv 0, iv 0, iv 0, iv 0, .null, .null, .null])] rfl ?_
  refine g_aload0 dX3_init_63 ?_
  refine g_iconst dX3_init_64 ?_
  refine n_put (i := 0) hn rfl rfl fl_X3_45 (fun _ _ _ h => by cases h; rfl) (Or.inl ⟨_, rfl⟩) (fun _ => rfl) (fun _ => rfl) (show 12 ≤ _ from Nat.le_of_ble_eq_true rfl) dX3_init_65 ?_
  refine n_nrm [.inr (3, [iv 300, iv 12, iv 30, iv 1, iv 1, iv 1, iv 2, iv 1, iv 0, iv 0, iv 0, iv 0, iv 0, .null, .null, .null])] rfl ?_
  refine g_aload0 dX3_init_68 ?_
  refine g_iconst dX3_init_69 ?_
  refine n_put (i := 0) hn rfl rfl fl_X3_48 (fun _ _ _ h => by cases h; rfl) (Or.inl ⟨_, rfl⟩) (fun _ => rfl) (fun _ => rfl) (show 13 ≤ _ from Nat.le_of_ble_eq_true rfl) dX3_init_70 ?_
  refine n_nrm [.inr (3, [iv 300, iv 12, iv 30, iv 1, iv 1, iv 1, iv 2, iv 1, iv 0, iv 0, iv 0, iv 0, iv 0, .null, .null, .null])] rfl ?_
  refine g_aload0 dX3_init_73 ?_
  refine g_bipush dX3_init_74 (by decide) ?_
  refine n_newI (N := 7) (q := n0 + 1) hn rfl rfl (by decide) (by omega) ⟨⟨⟨Or.inl (Nat.lt_add_of_pos_right (by decide)), ho0⟩, trivial⟩, ⟨⟨Or.inl (Nat.lt_add_of_pos_right (by decide)), ho0⟩, trivial⟩⟩ (by decide) dX3_init_76 (by decide) (by decide) ?_
  refine n_nrm [.inr (3, [iv 300, iv 12, iv 30, iv 1, iv 1, iv 1, iv 2, iv 1, iv 0, iv 0, iv 0, iv 0, iv 0, .null, .null, .null]), zI 7] rfl ?_
  refine n_putF (i := 0) hn rfl rfl ff_X3_51 (fun _ _ _ h => by cases h; rfl) rfl (Or.inr ⟨1, rfl, show 2 ≤ _ from Nat.le_of_ble_eq_true rfl, Or.inl (ho 1 (by decide))⟩) (fun _ => rfl) (fun _ => rfl) (show 14 ≤ _ from Nat.le_of_ble_eq_true rfl) dX3_init_78 ?_
  refine n_nrm [.inr (3, [iv 300, iv 12, iv 30, iv 1, iv 1, iv 1, iv 2, iv 1, iv 0, iv 0, iv 0, iv 0, iv 0, .ref (n0 + 1), .null, .null]), zI 7] rfl ?_
  refine g_aload0 dX3_init_81 ?_
  refine g_bipush dX3_init_82 (by decide) ?_
  refine n_newI (N := 7) (q := n0 + 2) hn rfl rfl (by decide) (by omega) ⟨⟨⟨Or.inl (Nat.lt_add_of_pos_right (by decide)), ho0⟩, trivial⟩, ⟨⟨Or.inl (Nat.lt_add_of_pos_right (by decide)), ho0⟩, trivial⟩⟩ (by decide) dX3_init_84 (by decide) (by decide) ?_
  refine n_nrm [.inr (3, [iv 300, iv 12, iv 30, iv 1, iv 1, iv 1, iv 2, iv 1, iv 0, iv 0, iv 0, iv 0, iv 0, .ref (n0 + 1), .null, .null]), zI 7, zI 7] rfl ?_
  refine n_putF (i := 0) hn rfl rfl ff_X3_55 (fun _ _ _ h => by cases h; rfl) rfl (Or.inr ⟨2, rfl, show 3 ≤ _ from Nat.le_of_ble_eq_true rfl, Or.inl (ho 2 (by decide))⟩) (fun _ => rfl) (fun _ => rfl) (show 15 ≤ _ from Nat.le_of_ble_eq_true rfl) dX3_init_86 ?_
  refine n_nrm [.inr (3, [iv 300, iv 12, iv 30, iv 1, iv 1, iv 1, iv 2, iv 1, iv 0, iv 0, iv 0, iv 0, iv 0, .ref (n0 + 1), .ref (n0 + 2), .null]), zI 7, zI 7] rfl ?_
  refine g_aload0 dX3_init_89 ?_
  refine g_bipush dX3_init_90 (by decide) ?_
  refine n_newI (N := 40) (q := n0 + 3) hn rfl rfl (by decide) (by omega) ⟨⟨⟨Or.inl (Nat.lt_add_of_pos_right (by decide)), ho0⟩, trivial⟩, ⟨⟨Or.inl (Nat.lt_add_of_pos_right (by decide)), ho0⟩, trivial⟩⟩ (by decide) dX3_init_92 (by decide) (by decide) ?_
  refine n_nrm [.inr (3, [iv 300, iv 12, iv 30, iv 1, iv 1, iv 1, iv 2, iv 1, iv 0, iv 0, iv 0, iv 0, iv 0, .ref (n0 + 1), .ref (n0 + 2), .null]), zI 7, zI 7, zI 40] rfl ?_
  refine n_putF (i := 0) hn rfl rfl ff_X3_58 (fun _ _ _ h => by cases h; rfl) rfl (Or.inr ⟨3, rfl, show 4 ≤ _ from Nat.le_of_ble_eq_true rfl, Or.inl (ho 3 (by decide))⟩) (fun _ => rfl) (fun _ => rfl) (show 16 ≤ _ from Nat.le_of_ble_eq_true rfl) dX3_init_94 ?_
  refine n_nrm [.inr (3, [iv 300, iv 12, iv 30, iv 1, iv 1, iv 1, iv 2, iv 1, iv 0, iv 0, iv 0, iv 0, iv 0, .ref (n0 + 1), .ref (n0 + 2), .ref (n0 + 3)]), zI 7, zI 7, zI 40] rfl ?_
  exact g_return rfl dX3_init_97 ⟨rfl, rfl⟩
def mkFB (n0 : Nat) : mM := [.inr (1, [iv 1, .ref (n0 + 1), .ref (n0 + 2), .ref (n0 + 3), .ref (n0 + 4), .ref (n0 + 5), .ref (n0 + 6)]), zI 1, zI 1, zI 1, zI 1, zI 1, zI 49]
theorem mkF_ok {g : gT} {P : mM} {n0 : Nat} (hn : P.length = n0) (hb : n0 + 10 < 1000000) (ho0 : ownr n0 = none) (ho : ∀ i, i < 7 → 1 ≤ i → ownr (n0 + i) = none ∨ ownr (n0 + i) = some (n0, i)) : Rn g zX1_init 6 54 [.ref n0] (P ++ [.inr (1, nw1)]) (fun o M => o = .inl none ∧ M = P ++ mkFB n0) := by
  have hKB : KB = 1000000 := rfl
  refine Rn.of [some (.ref n0)] rfl (by decide) (Nat.le_of_ble_eq_true rfl) rfl ?_
  refine g_aload0 dX1_init_0 ?_
  refine n_oinit (i := 0) hn rfl rfl (tt1 181 rfl rfl) ⟨by decide, by decide⟩ dX1_init_1 ?_
  refine g_aload0 dX1_init_4 ?_
  refine g_iconst dX1_init_5 ?_
  refine n_put (i := 0) hn rfl rfl fl_X1_9 (fun _ _ _ h => by cases h; rfl) (Or.inl ⟨_, rfl⟩) (fun _ => rfl) (fun _ => rfl) (show 1 ≤ _ from Nat.le_of_ble_eq_true rfl) dX1_init_6 ?_
  refine n_nrm [.inr (1, [iv 1, .null, .null, .null, .null, .null, .null])] rfl ?_
  refine g_aload0 dX1_init_9 ?_
  refine g_iconst dX1_init_10 ?_
  refine n_newI (N := 1) (q := n0 + 1) hn rfl rfl (by decide) (by omega) ⟨⟨⟨Or.inl (Nat.lt_add_of_pos_right (by decide)), ho0⟩, trivial⟩, ⟨⟨Or.inl (Nat.lt_add_of_pos_right (by decide)), ho0⟩, trivial⟩⟩ (by decide) dX1_init_11 (by decide) (by decide) ?_
  refine n_nrm [.inr (1, [iv 1, .null, .null, .null, .null, .null, .null]), zI 1] rfl ?_
  refine n_put (i := 0) hn rfl rfl fl_X1_15 (fun _ _ _ h => by cases h; rfl) (Or.inr ⟨1, rfl, show 2 ≤ _ from Nat.le_of_ble_eq_true rfl, (ho 1 (by decide) (by decide))⟩) (fun _ => rfl) (fun _ => rfl) (show 2 ≤ _ from Nat.le_of_ble_eq_true rfl) dX1_init_13 ?_
  refine n_nrm [.inr (1, [iv 1, .ref (n0 + 1), .null, .null, .null, .null, .null]), zI 1] rfl ?_
  refine g_aload0 dX1_init_16 ?_
  refine g_iconst dX1_init_17 ?_
  refine n_newI (N := 1) (q := n0 + 2) hn rfl rfl (by decide) (by omega) ⟨⟨⟨Or.inl (Nat.lt_add_of_pos_right (by decide)), ho0⟩, trivial⟩, ⟨⟨Or.inl (Nat.lt_add_of_pos_right (by decide)), ho0⟩, trivial⟩⟩ (by decide) dX1_init_18 (by decide) (by decide) ?_
  refine n_nrm [.inr (1, [iv 1, .ref (n0 + 1), .null, .null, .null, .null, .null]), zI 1, zI 1] rfl ?_
  refine n_put (i := 0) hn rfl rfl fl_X1_19 (fun _ _ _ h => by cases h; rfl) (Or.inr ⟨2, rfl, show 3 ≤ _ from Nat.le_of_ble_eq_true rfl, (ho 2 (by decide) (by decide))⟩) (fun _ => rfl) (fun _ => rfl) (show 3 ≤ _ from Nat.le_of_ble_eq_true rfl) dX1_init_20 ?_
  refine n_nrm [.inr (1, [iv 1, .ref (n0 + 1), .ref (n0 + 2), .null, .null, .null, .null]), zI 1, zI 1] rfl ?_
  refine g_aload0 dX1_init_23 ?_
  refine g_iconst dX1_init_24 ?_
  refine n_newI (N := 1) (q := n0 + 3) hn rfl rfl (by decide) (by omega) ⟨⟨⟨Or.inl (Nat.lt_add_of_pos_right (by decide)), ho0⟩, trivial⟩, ⟨⟨Or.inl (Nat.lt_add_of_pos_right (by decide)), ho0⟩, trivial⟩⟩ (by decide) dX1_init_25 (by decide) (by decide) ?_
  refine n_nrm [.inr (1, [iv 1, .ref (n0 + 1), .ref (n0 + 2), .null, .null, .null, .null]), zI 1, zI 1, zI 1] rfl ?_
  refine n_put (i := 0) hn rfl rfl fl_X1_22 (fun _ _ _ h => by cases h; rfl) (Or.inr ⟨3, rfl, show 4 ≤ _ from Nat.le_of_ble_eq_true rfl, (ho 3 (by decide) (by decide))⟩) (fun _ => rfl) (fun _ => rfl) (show 4 ≤ _ from Nat.le_of_ble_eq_true rfl) dX1_init_27 ?_
  refine n_nrm [.inr (1, [iv 1, .ref (n0 + 1), .ref (n0 + 2), .ref (n0 + 3), .null, .null, .null]), zI 1, zI 1, zI 1] rfl ?_
  refine g_aload0 dX1_init_30 ?_
  refine g_iconst dX1_init_31 ?_
  refine n_newI (N := 1) (q := n0 + 4) hn rfl rfl (by decide) (by omega) ⟨⟨⟨Or.inl (Nat.lt_add_of_pos_right (by decide)), ho0⟩, trivial⟩, ⟨⟨Or.inl (Nat.lt_add_of_pos_right (by decide)), ho0⟩, trivial⟩⟩ (by decide) dX1_init_32 (by decide) (by decide) ?_
  refine n_nrm [.inr (1, [iv 1, .ref (n0 + 1), .ref (n0 + 2), .ref (n0 + 3), .null, .null, .null]), zI 1, zI 1, zI 1, zI 1] rfl ?_
  refine n_put (i := 0) hn rfl rfl fl_X1_25 (fun _ _ _ h => by cases h; rfl) (Or.inr ⟨4, rfl, show 5 ≤ _ from Nat.le_of_ble_eq_true rfl, (ho 4 (by decide) (by decide))⟩) (fun _ => rfl) (fun _ => rfl) (show 5 ≤ _ from Nat.le_of_ble_eq_true rfl) dX1_init_34 ?_
  refine n_nrm [.inr (1, [iv 1, .ref (n0 + 1), .ref (n0 + 2), .ref (n0 + 3), .ref (n0 + 4), .null, .null]), zI 1, zI 1, zI 1, zI 1] rfl ?_
  refine g_aload0 dX1_init_37 ?_
  refine g_iconst dX1_init_38 ?_
  refine n_newI (N := 1) (q := n0 + 5) hn rfl rfl (by decide) (by omega) ⟨⟨⟨Or.inl (Nat.lt_add_of_pos_right (by decide)), ho0⟩, trivial⟩, ⟨⟨Or.inl (Nat.lt_add_of_pos_right (by decide)), ho0⟩, trivial⟩⟩ (by decide) dX1_init_39 (by decide) (by decide) ?_
  refine n_nrm [.inr (1, [iv 1, .ref (n0 + 1), .ref (n0 + 2), .ref (n0 + 3), .ref (n0 + 4), .null, .null]), zI 1, zI 1, zI 1, zI 1, zI 1] rfl ?_
  refine n_put (i := 0) hn rfl rfl fl_X1_28 (fun _ _ _ h => by cases h; rfl) (Or.inr ⟨5, rfl, show 6 ≤ _ from Nat.le_of_ble_eq_true rfl, (ho 5 (by decide) (by decide))⟩) (fun _ => rfl) (fun _ => rfl) (show 6 ≤ _ from Nat.le_of_ble_eq_true rfl) dX1_init_41 ?_
  refine n_nrm [.inr (1, [iv 1, .ref (n0 + 1), .ref (n0 + 2), .ref (n0 + 3), .ref (n0 + 4), .ref (n0 + 5), .null]), zI 1, zI 1, zI 1, zI 1, zI 1] rfl ?_
  refine g_aload0 dX1_init_44 ?_
  refine g_bipush dX1_init_45 (by decide) ?_
  refine n_newI (N := 49) (q := n0 + 6) hn rfl rfl (by decide) (by omega) ⟨⟨⟨Or.inl (Nat.lt_add_of_pos_right (by decide)), ho0⟩, trivial⟩, ⟨⟨Or.inl (Nat.lt_add_of_pos_right (by decide)), ho0⟩, trivial⟩⟩ (by decide) dX1_init_47 (by decide) (by decide) ?_
  refine n_nrm [.inr (1, [iv 1, .ref (n0 + 1), .ref (n0 + 2), .ref (n0 + 3), .ref (n0 + 4), .ref (n0 + 5), .null]), zI 1, zI 1, zI 1, zI 1, zI 1, zI 49] rfl ?_
  refine n_putF (i := 0) hn rfl rfl ff_X1_31 (fun _ _ _ h => by cases h; rfl) rfl (Or.inr ⟨6, rfl, show 7 ≤ _ from Nat.le_of_ble_eq_true rfl, (ho 6 (by decide) (by decide))⟩) (fun _ => rfl) (fun _ => rfl) (show 7 ≤ _ from Nat.le_of_ble_eq_true rfl) dX1_init_49 ?_
  refine n_nrm [.inr (1, [iv 1, .ref (n0 + 1), .ref (n0 + 2), .ref (n0 + 3), .ref (n0 + 4), .ref (n0 + 5), .ref (n0 + 6)]), zI 1, zI 1, zI 1, zI 1, zI 1, zI 49] rfl ?_
  exact g_return rfl dX1_init_52 ⟨rfl, rfl⟩
def mkCB (n0 : Nat) : mM := [.inr (0, [.ref (n0 + 1), .ref (n0 + 2), .ref (n0 + 3), .ref (n0 + 4), .ref (n0 + 5), .ref (n0 + 6), .ref (n0 + 7)]), zI 26, zI 25, zI 25, zI 25, zI 2, zI 2, zI 2]
theorem mkC_ok {g : gT} {P : mM} {n0 : Nat} (hn : P.length = n0) (hb : n0 + 10 < 1000000) (ho0 : ownr n0 = none) (ho : ∀ i, i < 7 → ownr (n0 + (i + 1)) = none ∨ ownr (n0 + (i + 1)) = some (n0, i)) : Rn g zX0_init 7 107 [.ref n0] (P ++ [.inr (0, nw0)]) (fun o M => o = .inl none ∧ M = P ++ mkCB n0) := by
  have hKB : KB = 1000000 := rfl
  refine Rn.of [some (.ref n0)] rfl (by decide) (Nat.le_of_ble_eq_true rfl) rfl ?_
  refine g_aload0 dX0_init_0 ?_
  refine n_oinit (i := 0) hn rfl rfl (tt1 215 rfl rfl) ⟨by decide, by decide⟩ dX0_init_1 ?_
  refine g_aload0 dX0_init_4 ?_
  refine g_bipush dX0_init_5 (by decide) ?_
  refine n_newI (N := 26) (q := n0 + 1) hn rfl rfl (by decide) (by omega) ⟨⟨⟨Or.inl (Nat.lt_add_of_pos_right (by decide)), ho0⟩, trivial⟩, ⟨⟨Or.inl (Nat.lt_add_of_pos_right (by decide)), ho0⟩, trivial⟩⟩ (by decide) dX0_init_7 (by decide) (by decide) ?_
  refine n_nrm [.inr (0, nw0), zI 26] rfl ?_
  refine n_putF (i := 0) hn rfl rfl ff_X0_9 (fun _ _ _ h => by cases h; rfl) rfl (Or.inr ⟨1, rfl, show 2 ≤ _ from Nat.le_of_ble_eq_true rfl, (ho 0 (by decide))⟩) (fun _ => rfl) (fun _ => rfl) (show 1 ≤ _ from Nat.le_of_ble_eq_true rfl) dX0_init_9 ?_
  refine n_nrm [.inr (0, [.ref (n0 + 1), .null, .null, .null, .null, .null, .null]), zI 26] rfl ?_
  refine g_aload0 dX0_init_12 ?_
  refine g_bipush dX0_init_13 (by decide) ?_
  refine n_newI (N := 25) (q := n0 + 2) hn rfl rfl (by decide) (by omega) ⟨⟨⟨Or.inl (Nat.lt_add_of_pos_right (by decide)), ho0⟩, trivial⟩, ⟨⟨Or.inl (Nat.lt_add_of_pos_right (by decide)), ho0⟩, trivial⟩⟩ (by decide) dX0_init_15 (by decide) (by decide) ?_
  refine n_nrm [.inr (0, [.ref (n0 + 1), .null, .null, .null, .null, .null, .null]), zI 26, zI 25] rfl ?_
  refine n_putF (i := 0) hn rfl rfl ff_X0_15 (fun _ _ _ h => by cases h; rfl) rfl (Or.inr ⟨2, rfl, show 3 ≤ _ from Nat.le_of_ble_eq_true rfl, (ho 1 (by decide))⟩) (fun _ => rfl) (fun _ => rfl) (show 2 ≤ _ from Nat.le_of_ble_eq_true rfl) dX0_init_17 ?_
  refine n_nrm [.inr (0, [.ref (n0 + 1), .ref (n0 + 2), .null, .null, .null, .null, .null]), zI 26, zI 25] rfl ?_
  refine g_aload0 dX0_init_20 ?_
  refine g_bipush dX0_init_21 (by decide) ?_
  refine n_newI (N := 25) (q := n0 + 3) hn rfl rfl (by decide) (by omega) ⟨⟨⟨Or.inl (Nat.lt_add_of_pos_right (by decide)), ho0⟩, trivial⟩, ⟨⟨Or.inl (Nat.lt_add_of_pos_right (by decide)), ho0⟩, trivial⟩⟩ (by decide) dX0_init_23 (by decide) (by decide) ?_
  refine n_nrm [.inr (0, [.ref (n0 + 1), .ref (n0 + 2), .null, .null, .null, .null, .null]), zI 26, zI 25, zI 25] rfl ?_
  refine n_putF (i := 0) hn rfl rfl ff_X0_18 (fun _ _ _ h => by cases h; rfl) rfl (Or.inr ⟨3, rfl, show 4 ≤ _ from Nat.le_of_ble_eq_true rfl, (ho 2 (by decide))⟩) (fun _ => rfl) (fun _ => rfl) (show 3 ≤ _ from Nat.le_of_ble_eq_true rfl) dX0_init_25 ?_
  refine n_nrm [.inr (0, [.ref (n0 + 1), .ref (n0 + 2), .ref (n0 + 3), .null, .null, .null, .null]), zI 26, zI 25, zI 25] rfl ?_
  refine g_aload0 dX0_init_28 ?_
  refine g_bipush dX0_init_29 (by decide) ?_
  refine n_newI (N := 25) (q := n0 + 4) hn rfl rfl (by decide) (by omega) ⟨⟨⟨Or.inl (Nat.lt_add_of_pos_right (by decide)), ho0⟩, trivial⟩, ⟨⟨Or.inl (Nat.lt_add_of_pos_right (by decide)), ho0⟩, trivial⟩⟩ (by decide) dX0_init_31 (by decide) (by decide) ?_
  refine n_nrm [.inr (0, [.ref (n0 + 1), .ref (n0 + 2), .ref (n0 + 3), .null, .null, .null, .null]), zI 26, zI 25, zI 25, zI 25] rfl ?_
  refine n_putF (i := 0) hn rfl rfl ff_X0_21 (fun _ _ _ h => by cases h; rfl) rfl (Or.inr ⟨4, rfl, show 5 ≤ _ from Nat.le_of_ble_eq_true rfl, (ho 3 (by decide))⟩) (fun _ => rfl) (fun _ => rfl) (show 4 ≤ _ from Nat.le_of_ble_eq_true rfl) dX0_init_33 ?_
  refine n_nrm [.inr (0, [.ref (n0 + 1), .ref (n0 + 2), .ref (n0 + 3), .ref (n0 + 4), .null, .null, .null]), zI 26, zI 25, zI 25, zI 25] rfl ?_
  refine g_aload0 dX0_init_36 ?_
  refine g_iconst dX0_init_37 ?_
  refine n_newI (N := 2) (q := n0 + 5) hn rfl rfl (by decide) (by omega) ⟨⟨⟨Or.inl (Nat.lt_add_of_pos_right (by decide)), ho0⟩, trivial⟩, ⟨⟨Or.inl (Nat.lt_add_of_pos_right (by decide)), ho0⟩, trivial⟩⟩ (by decide) dX0_init_38 (by decide) (by decide) ?_
  refine n_nrm [.inr (0, [.ref (n0 + 1), .ref (n0 + 2), .ref (n0 + 3), .ref (n0 + 4), .null, .null, .null]), zI 26, zI 25, zI 25, zI 25, zI 2] rfl ?_
  refine n_put (i := 0) hn rfl rfl fl_X0_24 (fun _ _ _ h => by cases h; rfl) (Or.inr ⟨5, rfl, show 6 ≤ _ from Nat.le_of_ble_eq_true rfl, (ho 4 (by decide))⟩) (fun _ => rfl) (fun _ => rfl) (show 5 ≤ _ from Nat.le_of_ble_eq_true rfl) dX0_init_40 ?_
  refine n_nrm [.inr (0, [.ref (n0 + 1), .ref (n0 + 2), .ref (n0 + 3), .ref (n0 + 4), .ref (n0 + 5), .null, .null]), zI 26, zI 25, zI 25, zI 25, zI 2] rfl ?_
  refine g_aload0 dX0_init_43 ?_
  refine g_iconst dX0_init_44 ?_
  refine n_newI (N := 2) (q := n0 + 6) hn rfl rfl (by decide) (by omega) ⟨⟨⟨Or.inl (Nat.lt_add_of_pos_right (by decide)), ho0⟩, trivial⟩, ⟨⟨Or.inl (Nat.lt_add_of_pos_right (by decide)), ho0⟩, trivial⟩⟩ (by decide) dX0_init_45 (by decide) (by decide) ?_
  refine n_nrm [.inr (0, [.ref (n0 + 1), .ref (n0 + 2), .ref (n0 + 3), .ref (n0 + 4), .ref (n0 + 5), .null, .null]), zI 26, zI 25, zI 25, zI 25, zI 2, zI 2] rfl ?_
  refine n_put (i := 0) hn rfl rfl fl_X0_27 (fun _ _ _ h => by cases h; rfl) (Or.inr ⟨6, rfl, show 7 ≤ _ from Nat.le_of_ble_eq_true rfl, (ho 5 (by decide))⟩) (fun _ => rfl) (fun _ => rfl) (show 6 ≤ _ from Nat.le_of_ble_eq_true rfl) dX0_init_47 ?_
  refine n_nrm [.inr (0, [.ref (n0 + 1), .ref (n0 + 2), .ref (n0 + 3), .ref (n0 + 4), .ref (n0 + 5), .ref (n0 + 6), .null]), zI 26, zI 25, zI 25, zI 25, zI 2, zI 2] rfl ?_
  refine g_aload0 dX0_init_50 ?_
  refine g_iconst dX0_init_51 ?_
  refine n_newI (N := 2) (q := n0 + 7) hn rfl rfl (by decide) (by omega) ⟨⟨⟨Or.inl (Nat.lt_add_of_pos_right (by decide)), ho0⟩, trivial⟩, ⟨⟨Or.inl (Nat.lt_add_of_pos_right (by decide)), ho0⟩, trivial⟩⟩ (by decide) dX0_init_52 (by decide) (by decide) ?_
  refine n_nrm [.inr (0, [.ref (n0 + 1), .ref (n0 + 2), .ref (n0 + 3), .ref (n0 + 4), .ref (n0 + 5), .ref (n0 + 6), .null]), zI 26, zI 25, zI 25, zI 25, zI 2, zI 2, zI 2] rfl ?_
  refine n_put (i := 0) hn rfl rfl fl_X0_30 (fun _ _ _ h => by cases h; rfl) (Or.inr ⟨7, rfl, show 8 ≤ _ from Nat.le_of_ble_eq_true rfl, (ho 6 (by decide))⟩) (fun _ => rfl) (fun _ => rfl) (show 7 ≤ _ from Nat.le_of_ble_eq_true rfl) dX0_init_54 ?_
  refine n_nrm [.inr (0, [.ref (n0 + 1), .ref (n0 + 2), .ref (n0 + 3), .ref (n0 + 4), .ref (n0 + 5), .ref (n0 + 6), .ref (n0 + 7)]), zI 26, zI 25, zI 25, zI 25, zI 2, zI 2, zI 2] rfl ?_
  exact g_return rfl dX0_init_57 ⟨rfl, rfl⟩
def mkWB (n0 : Nat) : mM := [.inr (4, [iv 0, .ref (n0 + 1), .ref (n0 + 2), .ref (n0 + 3), .ref (n0 + 4), .ref (n0 + 5)]), zI 40, zI 40, zI 40, zI 2, zI 2]
theorem mkW_ok {g : gT} {P : mM} {n0 : Nat} (hn : P.length = n0) (hb : n0 + 10 < 1000000) (ho0 : ownr n0 = none) (ho : ∀ i, i < 6 → 1 ≤ i → ownr (n0 + i) = none ∨ ownr (n0 + i) = some (n0, i)) : Rn g zX4_init 5 124 [.ref n0] (P ++ [.inr (4, nw4)]) (fun o M => o = .inl none ∧ M = P ++ mkWB n0) := by
  have hKB : KB = 1000000 := rfl
  refine Rn.of [some (.ref n0)] rfl (by decide) (Nat.le_of_ble_eq_true rfl) rfl ?_
  refine g_aload0 dX4_init_0 ?_
  refine n_oinit (i := 0) hn rfl rfl (tt2 8 rfl rfl) ⟨by decide, by decide⟩ dX4_init_1 ?_
  refine g_aload0 dX4_init_4 ?_
  refine g_iconst dX4_init_5 ?_
  refine n_put (i := 0) hn rfl rfl fl_X4_9 (fun _ _ _ h => by cases h; rfl) (Or.inl ⟨_, rfl⟩) (fun _ => rfl) (fun _ => rfl) (show 1 ≤ _ from Nat.le_of_ble_eq_true rfl) dX4_init_6 ?_
  refine n_nrm [.inr (4, [iv 0, .null, .null, .null, .null, .null])] rfl ?_
  refine g_aload0 dX4_init_9 ?_
  refine g_bipush dX4_init_10 (by decide) ?_
  refine n_newI (N := 40) (q := n0 + 1) hn rfl rfl (by decide) (by omega) ⟨⟨⟨Or.inl (Nat.lt_add_of_pos_right (by decide)), ho0⟩, trivial⟩, ⟨⟨Or.inl (Nat.lt_add_of_pos_right (by decide)), ho0⟩, trivial⟩⟩ (by decide) dX4_init_12 (by decide) (by decide) ?_
  refine n_nrm [.inr (4, [iv 0, .null, .null, .null, .null, .null]), zI 40] rfl ?_
  refine n_putF (i := 0) hn rfl rfl ff_X4_15 (fun _ _ _ h => by cases h; rfl) rfl (Or.inr ⟨1, rfl, show 2 ≤ _ from Nat.le_of_ble_eq_true rfl, (ho 1 (by decide) (by decide))⟩) (fun _ => rfl) (fun _ => rfl) (show 2 ≤ _ from Nat.le_of_ble_eq_true rfl) dX4_init_14 ?_
  refine n_nrm [.inr (4, [iv 0, .ref (n0 + 1), .null, .null, .null, .null]), zI 40] rfl ?_
  refine g_aload0 dX4_init_17 ?_
  refine g_bipush dX4_init_18 (by decide) ?_
  refine n_newI (N := 40) (q := n0 + 2) hn rfl rfl (by decide) (by omega) ⟨⟨⟨Or.inl (Nat.lt_add_of_pos_right (by decide)), ho0⟩, trivial⟩, ⟨⟨Or.inl (Nat.lt_add_of_pos_right (by decide)), ho0⟩, trivial⟩⟩ (by decide) dX4_init_20 (by decide) (by decide) ?_
  refine n_nrm [.inr (4, [iv 0, .ref (n0 + 1), .null, .null, .null, .null]), zI 40, zI 40] rfl ?_
  refine n_putF (i := 0) hn rfl rfl ff_X4_19 (fun _ _ _ h => by cases h; rfl) rfl (Or.inr ⟨2, rfl, show 3 ≤ _ from Nat.le_of_ble_eq_true rfl, (ho 2 (by decide) (by decide))⟩) (fun _ => rfl) (fun _ => rfl) (show 3 ≤ _ from Nat.le_of_ble_eq_true rfl) dX4_init_22 ?_
  refine n_nrm [.inr (4, [iv 0, .ref (n0 + 1), .ref (n0 + 2), .null, .null, .null]), zI 40, zI 40] rfl ?_
  refine g_aload0 dX4_init_25 ?_
  refine g_bipush dX4_init_26 (by decide) ?_
  refine n_newI (N := 40) (q := n0 + 3) hn rfl rfl (by decide) (by omega) ⟨⟨⟨Or.inl (Nat.lt_add_of_pos_right (by decide)), ho0⟩, trivial⟩, ⟨⟨Or.inl (Nat.lt_add_of_pos_right (by decide)), ho0⟩, trivial⟩⟩ (by decide) dX4_init_28 (by decide) (by decide) ?_
  refine n_nrm [.inr (4, [iv 0, .ref (n0 + 1), .ref (n0 + 2), .null, .null, .null]), zI 40, zI 40, zI 40] rfl ?_
  refine n_putF (i := 0) hn rfl rfl ff_X4_22 (fun _ _ _ h => by cases h; rfl) rfl (Or.inr ⟨3, rfl, show 4 ≤ _ from Nat.le_of_ble_eq_true rfl, (ho 3 (by decide) (by decide))⟩) (fun _ => rfl) (fun _ => rfl) (show 4 ≤ _ from Nat.le_of_ble_eq_true rfl) dX4_init_30 ?_
  refine n_nrm [.inr (4, [iv 0, .ref (n0 + 1), .ref (n0 + 2), .ref (n0 + 3), .null, .null]), zI 40, zI 40, zI 40] rfl ?_
  refine g_aload0 dX4_init_33 ?_
  refine g_iconst dX4_init_34 ?_
  refine n_newI (N := 2) (q := n0 + 4) hn rfl rfl (by decide) (by omega) ⟨⟨⟨Or.inl (Nat.lt_add_of_pos_right (by decide)), ho0⟩, trivial⟩, ⟨⟨Or.inl (Nat.lt_add_of_pos_right (by decide)), ho0⟩, trivial⟩⟩ (by decide) dX4_init_35 (by decide) (by decide) ?_
  refine n_nrm [.inr (4, [iv 0, .ref (n0 + 1), .ref (n0 + 2), .ref (n0 + 3), .null, .null]), zI 40, zI 40, zI 40, zI 2] rfl ?_
  refine n_put (i := 0) hn rfl rfl fl_X4_25 (fun _ _ _ h => by cases h; rfl) (Or.inr ⟨4, rfl, show 5 ≤ _ from Nat.le_of_ble_eq_true rfl, (ho 4 (by decide) (by decide))⟩) (fun _ => rfl) (fun _ => rfl) (show 5 ≤ _ from Nat.le_of_ble_eq_true rfl) dX4_init_37 ?_
  refine n_nrm [.inr (4, [iv 0, .ref (n0 + 1), .ref (n0 + 2), .ref (n0 + 3), .ref (n0 + 4), .null]), zI 40, zI 40, zI 40, zI 2] rfl ?_
  refine g_aload0 dX4_init_40 ?_
  refine g_iconst dX4_init_41 ?_
  refine n_newI (N := 2) (q := n0 + 5) hn rfl rfl (by decide) (by omega) ⟨⟨⟨Or.inl (Nat.lt_add_of_pos_right (by decide)), ho0⟩, trivial⟩, ⟨⟨Or.inl (Nat.lt_add_of_pos_right (by decide)), ho0⟩, trivial⟩⟩ (by decide) dX4_init_42 (by decide) (by decide) ?_
  refine n_nrm [.inr (4, [iv 0, .ref (n0 + 1), .ref (n0 + 2), .ref (n0 + 3), .ref (n0 + 4), .null]), zI 40, zI 40, zI 40, zI 2, zI 2] rfl ?_
  refine n_put (i := 0) hn rfl rfl fl_X4_28 (fun _ _ _ h => by cases h; rfl) (Or.inr ⟨5, rfl, show 6 ≤ _ from Nat.le_of_ble_eq_true rfl, (ho 5 (by decide) (by decide))⟩) (fun _ => rfl) (fun _ => rfl) (show 6 ≤ _ from Nat.le_of_ble_eq_true rfl) dX4_init_44 ?_
  refine n_nrm [.inr (4, [iv 0, .ref (n0 + 1), .ref (n0 + 2), .ref (n0 + 3), .ref (n0 + 4), .ref (n0 + 5)]), zI 40, zI 40, zI 40, zI 2, zI 2] rfl ?_
  exact g_return rfl dX4_init_47 ⟨rfl, rfl⟩
theorem leafKB : KB = 1000000 := rfl
def mkRB : mM := [.inr (2, [.ref (10), iv 0, iv 0, iv 0, iv 0, .ref (11), iv 0, iv 0, iv 0, iv 0, iv 0, .ref (15)]), zI 400, .inr (3, [iv 300, iv 12, iv 30, iv 1, iv 1, iv 1, iv 2, iv 1, iv 0, iv 0, iv 0, iv 0, iv 0, .ref (12), .ref (13), .ref (14)]), zI 7, zI 7, zI 40, zI 4]
theorem mkR_ok {g : gT} {P : mM} (hn : P.length = 9) : Rn g zX2_init 6 474 [.ref 9] (P ++ [.inr (2, nw2)]) (fun o M => o = .inl none ∧ M = P ++ mkRB) := by
  refine Rn.of [some (.ref 9)] rfl (by decide) (Nat.le_of_ble_eq_true rfl) rfl ?_
  refine g_aload0 dX2_init_0 ?_
  refine n_oinit (i := 0) hn rfl rfl (tt1 131 rfl rfl) ⟨by decide, by decide⟩ dX2_init_1 ?_
  refine g_aload0 dX2_init_4 ?_
  refine g_sipush dX2_init_5 (by decide) ?_
  refine n_newI (N := 400) (q := 10) hn rfl rfl (by decide) (by decide) ⟨bL_of rfl, bS_of rfl⟩ (by decide) dX2_init_8 (by decide) (by decide) ?_
  refine n_nrm [.inr (2, nw2), zI 400] rfl ?_
  refine n_putF (i := 0) hn rfl rfl ff_X2_9 (fun _ _ _ h => by cases h; rfl) rfl (Or.inr ⟨1, rfl, show 2 ≤ _ from Nat.le_of_ble_eq_true rfl, (by decide)⟩) (fun _ => rfl) (fun _ => rfl) (show 1 ≤ _ from Nat.le_of_ble_eq_true rfl) dX2_init_10 ?_
  refine n_nrm [.inr (2, [.ref (10), iv 0, iv 0, iv 0, iv 0, .null, iv 0, iv 0, iv 0, iv 0, iv 0, .null]), zI 400] rfl ?_
  refine g_aload0 dX2_init_13 ?_
  refine g_iconst dX2_init_14 ?_
  refine n_put (i := 0) hn rfl rfl fl_X2_15 (fun _ _ _ h => by cases h; rfl) (Or.inl ⟨_, rfl⟩) (fun _ => rfl) (fun _ => rfl) (show 2 ≤ _ from Nat.le_of_ble_eq_true rfl) dX2_init_15 ?_
  refine n_nrm [.inr (2, [.ref (10), iv 0, iv 0, iv 0, iv 0, .null, iv 0, iv 0, iv 0, iv 0, iv 0, .null]), zI 400] rfl ?_
  refine g_aload0 dX2_init_18 ?_
  refine g_iconst dX2_init_19 ?_
  refine n_put (i := 0) hn rfl rfl fl_X2_19 (fun _ _ _ h => by cases h; rfl) (Or.inl ⟨_, rfl⟩) (fun _ => rfl) (fun _ => rfl) (show 3 ≤ _ from Nat.le_of_ble_eq_true rfl) dX2_init_20 ?_
  refine n_nrm [.inr (2, [.ref (10), iv 0, iv 0, iv 0, iv 0, .null, iv 0, iv 0, iv 0, iv 0, iv 0, .null]), zI 400] rfl ?_
  refine g_aload0 dX2_init_23 ?_
  refine g_iconst dX2_init_24 ?_
  refine n_put (i := 0) hn rfl rfl fl_X2_22 (fun _ _ _ h => by cases h; rfl) (Or.inl ⟨_, rfl⟩) (fun _ => rfl) (fun _ => rfl) (show 4 ≤ _ from Nat.le_of_ble_eq_true rfl) dX2_init_25 ?_
  refine n_nrm [.inr (2, [.ref (10), iv 0, iv 0, iv 0, iv 0, .null, iv 0, iv 0, iv 0, iv 0, iv 0, .null]), zI 400] rfl ?_
  refine g_aload0 dX2_init_28 ?_
  refine g_iconst dX2_init_29 ?_
  refine n_put (i := 0) hn rfl rfl fl_X2_25 (fun _ _ _ h => by cases h; rfl) (Or.inl ⟨_, rfl⟩) (fun _ => rfl) (fun _ => rfl) (show 5 ≤ _ from Nat.le_of_ble_eq_true rfl) dX2_init_30 ?_
  refine n_nrm [.inr (2, [.ref (10), iv 0, iv 0, iv 0, iv 0, .null, iv 0, iv 0, iv 0, iv 0, iv 0, .null]), zI 400] rfl ?_
  refine g_aload0 dX2_init_33 ?_
  refine n_new (q := 11) (fs := nw3) hn rfl rfl (by decide) (by decide) ⟨bL_of rfl, bS_of rfl⟩ (ci := 3) rfl (tt1 132 rfl rfl) ⟨(tt1 28 rfl rfl), (tt1 2 rfl rfl)⟩ nwD3 nwR3 dX2_init_34 (by decide) (by decide) ?_
  refine g_dup rfl dX2_init_37 ?_
  refine n_call (q := 11) (fun Q hQ => mkS_ok hQ (by decide) rfl (by decide)) hn rfl rfl oY_X3_init oN_X3_init lk_X2_30 rfl dX2_init_38 (by decide) (by decide) rfl ⟨bL_of rfl, bS_of rfl⟩ ?_
  refine n_nrm [.inr (2, [.ref (10), iv 0, iv 0, iv 0, iv 0, .null, iv 0, iv 0, iv 0, iv 0, iv 0, .null]), zI 400, .inr (3, [iv 300, iv 12, iv 30, iv 1, iv 1, iv 1, iv 2, iv 1, iv 0, iv 0, iv 0, iv 0, iv 0, .ref (12), .ref (13), .ref (14)]), zI 7, zI 7, zI 40] rfl ?_
  refine n_putF (i := 0) hn rfl rfl ff_X2_31 (fun _ _ _ h => by cases h; rfl) rfl (Or.inr ⟨2, rfl, show 3 ≤ _ from Nat.le_of_ble_eq_true rfl, (by decide)⟩) (fun _ => rfl) (fun _ => rfl) (show 6 ≤ _ from Nat.le_of_ble_eq_true rfl) dX2_init_41 ?_
  refine n_nrm [.inr (2, [.ref (10), iv 0, iv 0, iv 0, iv 0, .ref (11), iv 0, iv 0, iv 0, iv 0, iv 0, .null]), zI 400, .inr (3, [iv 300, iv 12, iv 30, iv 1, iv 1, iv 1, iv 2, iv 1, iv 0, iv 0, iv 0, iv 0, iv 0, .ref (12), .ref (13), .ref (14)]), zI 7, zI 7, zI 40] rfl ?_
  refine g_aload0 dX2_init_44 ?_
  refine g_iconst dX2_init_45 ?_
  refine n_put (i := 0) hn rfl rfl fl_X2_35 (fun _ _ _ h => by cases h; rfl) (Or.inl ⟨_, rfl⟩) (fun _ => rfl) (fun _ => rfl) (show 7 ≤ _ from Nat.le_of_ble_eq_true rfl) dX2_init_46 ?_
  refine n_nrm [.inr (2, [.ref (10), iv 0, iv 0, iv 0, iv 0, .ref (11), iv 0, iv 0, iv 0, iv 0, iv 0, .null]), zI 400, .inr (3, [iv 300, iv 12, iv 30, iv 1, iv 1, iv 1, iv 2, iv 1, iv 0, iv 0, iv 0, iv 0, iv 0, .ref (12), .ref (13), .ref (14)]), zI 7, zI 7, zI 40] rfl ?_
  refine g_aload0 dX2_init_49 ?_
  refine g_iconst dX2_init_50 ?_
  refine n_put (i := 0) hn rfl rfl fl_X2_38 (fun _ _ _ h => by cases h; rfl) (Or.inl ⟨_, rfl⟩) (fun _ => rfl) (fun _ => rfl) (show 8 ≤ _ from Nat.le_of_ble_eq_true rfl) dX2_init_51 ?_
  refine n_nrm [.inr (2, [.ref (10), iv 0, iv 0, iv 0, iv 0, .ref (11), iv 0, iv 0, iv 0, iv 0, iv 0, .null]), zI 400, .inr (3, [iv 300, iv 12, iv 30, iv 1, iv 1, iv 1, iv 2, iv 1, iv 0, iv 0, iv 0, iv 0, iv 0, .ref (12), .ref (13), .ref (14)]), zI 7, zI 7, zI 40] rfl ?_
  refine g_aload0 dX2_init_54 ?_
  refine g_iconst dX2_init_55 ?_
  refine n_put (i := 0) hn rfl rfl fl_X2_41 (fun _ _ _ h => by cases h; rfl) (Or.inl ⟨_, rfl⟩) (fun _ => rfl) (fun _ => rfl) (show 9 ≤ _ from Nat.le_of_ble_eq_true rfl) dX2_init_56 ?_
  refine n_nrm [.inr (2, [.ref (10), iv 0, iv 0, iv 0, iv 0, .ref (11), iv 0, iv 0, iv 0, iv 0, iv 0, .null]), zI 400, .inr (3, [iv 300, iv 12, iv 30, iv 1, iv 1, iv 1, iv 2, iv 1, iv 0, iv 0, iv 0, iv 0, iv 0, .ref (12), .ref (13), .ref (14)]), zI 7, zI 7, zI 40] rfl ?_
  refine g_aload0 dX2_init_59 ?_
  refine g_iconst dX2_init_60 ?_
  refine n_put (i := 0) hn rfl rfl fl_X2_44 (fun _ _ _ h => by cases h; rfl) (Or.inl ⟨_, rfl⟩) (fun _ => rfl) (fun _ => rfl) (show 10 ≤ _ from Nat.le_of_ble_eq_true rfl) dX2_init_61 ?_
  refine n_nrm [.inr (2, [.ref (10), iv 0, iv 0, iv 0, iv 0, .ref (11), iv 0, iv 0, iv 0, iv 0, iv 0, .null]), zI 400, .inr (3, [iv 300, iv 12, iv 30, iv 1, iv 1, iv 1, iv 2, iv 1, iv 0, iv 0, iv 0, iv 0, iv 0, .ref (12), .ref (13), .ref (14)]), zI 7, zI 7, zI 40] rfl ?_
  refine g_aload0 dX2_init_64 ?_
  refine g_iconst dX2_init_65 ?_
  refine n_put (i := 0) hn rfl rfl fl_X2_48 (fun _ _ _ h => by cases h; rfl) (Or.inl ⟨_, rfl⟩) (fun _ => rfl) (fun _ => rfl) (show 11 ≤ _ from Nat.le_of_ble_eq_true rfl) dX2_init_66 ?_
  refine n_nrm [.inr (2, [.ref (10), iv 0, iv 0, iv 0, iv 0, .ref (11), iv 0, iv 0, iv 0, iv 0, iv 0, .null]), zI 400, .inr (3, [iv 300, iv 12, iv 30, iv 1, iv 1, iv 1, iv 2, iv 1, iv 0, iv 0, iv 0, iv 0, iv 0, .ref (12), .ref (13), .ref (14)]), zI 7, zI 7, zI 40] rfl ?_
  refine g_aload0 dX2_init_69 ?_
  refine g_iconst dX2_init_70 ?_
  refine n_newI (N := 4) (q := 15) hn rfl rfl (by decide) (by decide) ⟨bL_of rfl, bS_of rfl⟩ (by decide) dX2_init_71 (by decide) (by decide) ?_
  refine n_nrm [.inr (2, [.ref (10), iv 0, iv 0, iv 0, iv 0, .ref (11), iv 0, iv 0, iv 0, iv 0, iv 0, .null]), zI 400, .inr (3, [iv 300, iv 12, iv 30, iv 1, iv 1, iv 1, iv 2, iv 1, iv 0, iv 0, iv 0, iv 0, iv 0, .ref (12), .ref (13), .ref (14)]), zI 7, zI 7, zI 40, zI 4] rfl ?_
  refine n_putF (i := 0) hn rfl rfl ff_X2_51 (fun _ _ _ h => by cases h; rfl) rfl (Or.inr ⟨6, rfl, show 7 ≤ _ from Nat.le_of_ble_eq_true rfl, (by decide)⟩) (fun _ => rfl) (fun _ => rfl) (show 12 ≤ _ from Nat.le_of_ble_eq_true rfl) dX2_init_73 ?_
  refine n_nrm [.inr (2, [.ref (10), iv 0, iv 0, iv 0, iv 0, .ref (11), iv 0, iv 0, iv 0, iv 0, iv 0, .ref (15)]), zI 400, .inr (3, [iv 300, iv 12, iv 30, iv 1, iv 1, iv 1, iv 2, iv 1, iv 0, iv 0, iv 0, iv 0, iv 0, .ref (12), .ref (13), .ref (14)]), zI 7, zI 7, zI 40, zI 4] rfl ?_
  exact g_return rfl dX2_init_76 ⟨rfl, rfl⟩
def aQ (N b m : Nat) : mC := .inl (4, N, .inr (.inr (.inr (.inr (fun j => if j < m then some (b + 4 * j) else none)))))
theorem aQ_z {N b : Nat} : aQ N b 0 = zQ N := by
  unfold aQ zQ
  refine congrArg (fun z => Sum.inl (4, N, Sum.inr (Sum.inr (Sum.inr (Sum.inr z))))) (funext fun j => ?_)
  rw [if_neg (by omega)]
theorem aQ_s {N b m q : Nat} {x : Int} (hx : x.toNat = m) (hq : q = b + 4 * m) : (.inl (4, N, .inr (.inr (.inr (.inr (va_up (fun j => if j < m then some (b + 4 * j) else none) x.toNat (some q)))))) : mC) = aQ N b (m + 1) := by
  unfold aQ
  rw [hx, hq]
  refine congrArg (fun z => Sum.inl (4, N, Sum.inr (Sum.inr (Sum.inr (Sum.inr z))))) (funext fun j => ?_)
  unfold va_up
  dsimp only
  by_cases h : j = m
  · subst h; rw [if_pos rfl, if_pos (by omega)]
  · rw [if_neg h]
    by_cases h2 : j < m
    · rw [if_pos h2, if_pos (by omega)]
    · rw [if_neg h2, if_neg (by omega)]
theorem n_aastQ {g : gT} {y : yT} {k n : Nat} {Φ : mO → mM → Prop} {pc : Nat} {L : List (Option Value)} {st : List Value} {P cs : mM} {n0 i r o q N b m : Nat} {x : Int} {vs : List Value} (hc : cs[i]? = some (aQ N b m)) (hn : P.length = n0) (ho : n0 + i = o) (hr : n0 + r = q) (hq : cs[r]? = some (.inr (3, vs))) (hqo : ownr q = none) (hx : 0 ≤ x ∧ x < N) (hN : x ≤ 2147483647) (hxm : x.toNat = m) (hqb : q = b + 4 * m) (hd : decode (yB y) pc = .ok (.aastore, 1)) (h : GW g y k n Φ (pc + 1) L st (P ++ cs.set i (aQ N b (m + 1)))) : GW g y k n Φ pc L (.ref q :: iv x :: .ref o :: st) (P ++ cs) := by
  refine n_aast (i := i) (r := r) hn ho hr hc hq hqo hx hN hd ?_
  rw [aQ_s hxm hqb]
  exact h
def mkHB : mM := [.inr (5, [.ref (1), .ref (5), .ref (6), iv 0, iv 0, .ref (7), .ref (8), .ref (9), .ref (16), iv 0, .ref (17), .ref (24), .ref (32), .ref (40), .ref (46), iv 0]), .inr (3, [iv 300, iv 12, iv 30, iv 1, iv 1, iv 1, iv 2, iv 1, iv 0, iv 0, iv 0, iv 0, iv 0, .ref (2), .ref (3), .ref (4)]), zI 7, zI 7, zI 40, aQ 8 52 8, zI 8, aQ 2 84 2, zI 2, .inr (2, [.ref (10), iv 0, iv 0, iv 0, iv 0, .ref (11), iv 0, iv 0, iv 0, iv 0, iv 0, .ref (15)]), zI 400, .inr (3, [iv 300, iv 12, iv 30, iv 1, iv 1, iv 1, iv 2, iv 1, iv 0, iv 0, iv 0, iv 0, iv 0, .ref (12), .ref (13), .ref (14)]), zI 7, zI 7, zI 40, zI 4, zI 120, .inr (1, [iv 1, .ref (18), .ref (19), .ref (20), .ref (21), .ref (22), .ref (23)]), zI 1, zI 1, zI 1, zI 1, zI 1, zI 49, .inr (0, [.ref (25), .ref (26), .ref (27), .ref (28), .ref (29), .ref (30), .ref (31)]), zI 26, zI 25, zI 25, zI 25, zI 2, zI 2, zI 2, .inr (0, [.ref (33), .ref (34), .ref (35), .ref (36), .ref (37), .ref (38), .ref (39)]), zI 26, zI 25, zI 25, zI 25, zI 2, zI 2, zI 2, .inr (4, [iv 0, .ref (41), .ref (42), .ref (43), .ref (44), .ref (45)]), zI 40, zI 40, zI 40, zI 2, zI 2, .inr (4, [iv 0, .ref (47), .ref (48), .ref (49), .ref (50), .ref (51)]), zI 40, zI 40, zI 40, zI 2, zI 2, .inr (3, [iv 300, iv 12, iv 30, iv 1, iv 1, iv 1, iv 2, iv 1, iv 0, iv 0, iv 0, iv 0, iv 0, .ref (53), .ref (54), .ref (55)]), zI 7, zI 7, zI 40, .inr (3, [iv 300, iv 12, iv 30, iv 1, iv 1, iv 1, iv 2, iv 1, iv 0, iv 0, iv 0, iv 0, iv 0, .ref (57), .ref (58), .ref (59)]), zI 7, zI 7, zI 40, .inr (3, [iv 300, iv 12, iv 30, iv 1, iv 1, iv 1, iv 2, iv 1, iv 0, iv 0, iv 0, iv 0, iv 0, .ref (61), .ref (62), .ref (63)]), zI 7, zI 7, zI 40, .inr (3, [iv 300, iv 12, iv 30, iv 1, iv 1, iv 1, iv 2, iv 1, iv 0, iv 0, iv 0, iv 0, iv 0, .ref (65), .ref (66), .ref (67)]), zI 7, zI 7, zI 40, .inr (3, [iv 300, iv 12, iv 30, iv 1, iv 1, iv 1, iv 2, iv 1, iv 0, iv 0, iv 0, iv 0, iv 0, .ref (69), .ref (70), .ref (71)]), zI 7, zI 7, zI 40, .inr (3, [iv 300, iv 12, iv 30, iv 1, iv 1, iv 1, iv 2, iv 1, iv 0, iv 0, iv 0, iv 0, iv 0, .ref (73), .ref (74), .ref (75)]), zI 7, zI 7, zI 40, .inr (3, [iv 300, iv 12, iv 30, iv 1, iv 1, iv 1, iv 2, iv 1, iv 0, iv 0, iv 0, iv 0, iv 0, .ref (77), .ref (78), .ref (79)]), zI 7, zI 7, zI 40, .inr (3, [iv 300, iv 12, iv 30, iv 1, iv 1, iv 1, iv 2, iv 1, iv 0, iv 0, iv 0, iv 0, iv 0, .ref (81), .ref (82), .ref (83)]), zI 7, zI 7, zI 40, .inr (3, [iv 300, iv 12, iv 30, iv 1, iv 1, iv 1, iv 2, iv 1, iv 0, iv 0, iv 0, iv 0, iv 0, .ref (85), .ref (86), .ref (87)]), zI 7, zI 7, zI 40, .inr (3, [iv 300, iv 12, iv 30, iv 1, iv 1, iv 1, iv 2, iv 1, iv 0, iv 0, iv 0, iv 0, iv 0, .ref (89), .ref (90), .ref (91)]), zI 7, zI 7, zI 40]
theorem mkH_ok {g : gT} {P : mM} (hn : P.length = 0) : Rn g zX5_init 91 1945 [.ref 0] (P ++ [.inr (5, nw5)]) (fun o M => o = .inl none ∧ M = P ++ mkHB) := by
  refine Rn.of [some (.ref 0), none] rfl (by decide) (Nat.le_of_ble_eq_true rfl) rfl ?_
  refine g_aload0 dX5_init_0 ?_
  refine n_oinit (i := 0) hn rfl rfl (tt1 24 rfl rfl) ⟨by decide, by decide⟩ dX5_init_1 ?_
  refine g_aload0 dX5_init_4 ?_
  refine n_new (q := 1) (fs := nw3) hn rfl rfl (by decide) (by decide) ⟨bL_of rfl, bS_of rfl⟩ (ci := 3) rfl (tt1 27 rfl rfl) ⟨(tt1 28 rfl rfl), (tt1 2 rfl rfl)⟩ nwD3 nwR3 dX5_init_5 (by decide) (by decide) ?_
  refine g_dup rfl dX5_init_8 ?_
  refine n_call (q := 1) (fun Q hQ => mkS_ok hQ (by decide) rfl (by decide)) hn rfl rfl oY_X3_init oN_X3_init lk_X5_9 rfl dX5_init_9 (by decide) (by decide) rfl ⟨bL_of rfl, bS_of rfl⟩ ?_
  refine n_nrm [.inr (5, nw5), .inr (3, [iv 300, iv 12, iv 30, iv 1, iv 1, iv 1, iv 2, iv 1, iv 0, iv 0, iv 0, iv 0, iv 0, .ref (2), .ref (3), .ref (4)]), zI 7, zI 7, zI 40] rfl ?_
  refine n_putF (i := 0) hn rfl rfl ff_X5_10 (fun _ _ _ h => by cases h; rfl) rfl (Or.inr ⟨1, rfl, show 2 ≤ _ from Nat.le_of_ble_eq_true rfl, (by decide)⟩) (fun _ => rfl) (fun _ => rfl) (show 1 ≤ _ from Nat.le_of_ble_eq_true rfl) dX5_init_12 ?_
  refine n_nrm [.inr (5, [.ref (1), .null, .null, iv 0, iv 0, .null, .null, .null, .null, iv 0, .null, .null, .null, .null, .null, iv 0]), .inr (3, [iv 300, iv 12, iv 30, iv 1, iv 1, iv 1, iv 2, iv 1, iv 0, iv 0, iv 0, iv 0, iv 0, .ref (2), .ref (3), .ref (4)]), zI 7, zI 7, zI 40] rfl ?_
  refine g_aload0 dX5_init_15 ?_
  refine g_bipush dX5_init_16 (by decide) ?_
  refine n_newQ (N := 8) (q := 5) hn rfl rfl (by decide) (by decide) ⟨bL_of rfl, bS_of rfl⟩ (tt1 27 rfl rfl) (by decide) dX5_init_18 (by decide) (by decide) ?_
  refine n_nrm [.inr (5, [.ref (1), .null, .null, iv 0, iv 0, .null, .null, .null, .null, iv 0, .null, .null, .null, .null, .null, iv 0]), .inr (3, [iv 300, iv 12, iv 30, iv 1, iv 1, iv 1, iv 2, iv 1, iv 0, iv 0, iv 0, iv 0, iv 0, .ref (2), .ref (3), .ref (4)]), zI 7, zI 7, zI 40, zQ 8] rfl ?_
  refine n_putF (i := 0) hn rfl rfl ff_X5_16 (fun _ _ _ h => by cases h; rfl) rfl (Or.inr ⟨5, rfl, show 6 ≤ _ from Nat.le_of_ble_eq_true rfl, (by decide)⟩) (fun _ => rfl) (fun _ => rfl) (show 2 ≤ _ from Nat.le_of_ble_eq_true rfl) dX5_init_21 ?_
  refine n_nrm [.inr (5, [.ref (1), .ref (5), .null, iv 0, iv 0, .null, .null, .null, .null, iv 0, .null, .null, .null, .null, .null, iv 0]), .inr (3, [iv 300, iv 12, iv 30, iv 1, iv 1, iv 1, iv 2, iv 1, iv 0, iv 0, iv 0, iv 0, iv 0, .ref (2), .ref (3), .ref (4)]), zI 7, zI 7, zI 40, zQ 8] rfl ?_
  refine g_aload0 dX5_init_24 ?_
  refine g_bipush dX5_init_25 (by decide) ?_
  refine n_newI (N := 8) (q := 6) hn rfl rfl (by decide) (by decide) ⟨bL_of rfl, bS_of rfl⟩ (by decide) dX5_init_27 (by decide) (by decide) ?_
  refine n_nrm [.inr (5, [.ref (1), .ref (5), .null, iv 0, iv 0, .null, .null, .null, .null, iv 0, .null, .null, .null, .null, .null, iv 0]), .inr (3, [iv 300, iv 12, iv 30, iv 1, iv 1, iv 1, iv 2, iv 1, iv 0, iv 0, iv 0, iv 0, iv 0, .ref (2), .ref (3), .ref (4)]), zI 7, zI 7, zI 40, zQ 8, zI 8] rfl ?_
  refine n_putF (i := 0) hn rfl rfl ff_X5_20 (fun _ _ _ h => by cases h; rfl) rfl (Or.inr ⟨6, rfl, show 7 ≤ _ from Nat.le_of_ble_eq_true rfl, (by decide)⟩) (fun _ => rfl) (fun _ => rfl) (show 3 ≤ _ from Nat.le_of_ble_eq_true rfl) dX5_init_29 ?_
  refine n_nrm [.inr (5, [.ref (1), .ref (5), .ref (6), iv 0, iv 0, .null, .null, .null, .null, iv 0, .null, .null, .null, .null, .null, iv 0]), .inr (3, [iv 300, iv 12, iv 30, iv 1, iv 1, iv 1, iv 2, iv 1, iv 0, iv 0, iv 0, iv 0, iv 0, .ref (2), .ref (3), .ref (4)]), zI 7, zI 7, zI 40, zQ 8, zI 8] rfl ?_
  refine g_aload0 dX5_init_32 ?_
  refine g_iconst dX5_init_33 ?_
  refine n_put (i := 0) hn rfl rfl fl_X5_24 (fun _ _ _ h => by cases h; rfl) (Or.inl ⟨_, rfl⟩) (fun _ => rfl) (fun _ => rfl) (show 4 ≤ _ from Nat.le_of_ble_eq_true rfl) dX5_init_34 ?_
  refine n_nrm [.inr (5, [.ref (1), .ref (5), .ref (6), iv 0, iv 0, .null, .null, .null, .null, iv 0, .null, .null, .null, .null, .null, iv 0]), .inr (3, [iv 300, iv 12, iv 30, iv 1, iv 1, iv 1, iv 2, iv 1, iv 0, iv 0, iv 0, iv 0, iv 0, .ref (2), .ref (3), .ref (4)]), zI 7, zI 7, zI 40, zQ 8, zI 8] rfl ?_
  refine g_aload0 dX5_init_37 ?_
  refine g_iconst dX5_init_38 ?_
  refine n_put (i := 0) hn rfl rfl fl_X5_28 (fun _ _ _ h => by cases h; rfl) (Or.inl ⟨_, rfl⟩) (fun _ => rfl) (fun _ => rfl) (show 5 ≤ _ from Nat.le_of_ble_eq_true rfl) dX5_init_39 ?_
  refine n_nrm [.inr (5, [.ref (1), .ref (5), .ref (6), iv 0, iv 0, .null, .null, .null, .null, iv 0, .null, .null, .null, .null, .null, iv 0]), .inr (3, [iv 300, iv 12, iv 30, iv 1, iv 1, iv 1, iv 2, iv 1, iv 0, iv 0, iv 0, iv 0, iv 0, .ref (2), .ref (3), .ref (4)]), zI 7, zI 7, zI 40, zQ 8, zI 8] rfl ?_
  refine g_aload0 dX5_init_42 ?_
  refine g_iconst dX5_init_43 ?_
  refine n_newQ (N := 2) (q := 7) hn rfl rfl (by decide) (by decide) ⟨bL_of rfl, bS_of rfl⟩ (tt1 27 rfl rfl) (by decide) dX5_init_44 (by decide) (by decide) ?_
  refine n_nrm [.inr (5, [.ref (1), .ref (5), .ref (6), iv 0, iv 0, .null, .null, .null, .null, iv 0, .null, .null, .null, .null, .null, iv 0]), .inr (3, [iv 300, iv 12, iv 30, iv 1, iv 1, iv 1, iv 2, iv 1, iv 0, iv 0, iv 0, iv 0, iv 0, .ref (2), .ref (3), .ref (4)]), zI 7, zI 7, zI 40, zQ 8, zI 8, zQ 2] rfl ?_
  refine n_putF (i := 0) hn rfl rfl ff_X5_31 (fun _ _ _ h => by cases h; rfl) rfl (Or.inr ⟨7, rfl, show 8 ≤ _ from Nat.le_of_ble_eq_true rfl, (by decide)⟩) (fun _ => rfl) (fun _ => rfl) (show 6 ≤ _ from Nat.le_of_ble_eq_true rfl) dX5_init_47 ?_
  refine n_nrm [.inr (5, [.ref (1), .ref (5), .ref (6), iv 0, iv 0, .ref (7), .null, .null, .null, iv 0, .null, .null, .null, .null, .null, iv 0]), .inr (3, [iv 300, iv 12, iv 30, iv 1, iv 1, iv 1, iv 2, iv 1, iv 0, iv 0, iv 0, iv 0, iv 0, .ref (2), .ref (3), .ref (4)]), zI 7, zI 7, zI 40, zQ 8, zI 8, zQ 2] rfl ?_
  refine g_aload0 dX5_init_50 ?_
  refine g_iconst dX5_init_51 ?_
  refine n_newI (N := 2) (q := 8) hn rfl rfl (by decide) (by decide) ⟨bL_of rfl, bS_of rfl⟩ (by decide) dX5_init_52 (by decide) (by decide) ?_
  refine n_nrm [.inr (5, [.ref (1), .ref (5), .ref (6), iv 0, iv 0, .ref (7), .null, .null, .null, iv 0, .null, .null, .null, .null, .null, iv 0]), .inr (3, [iv 300, iv 12, iv 30, iv 1, iv 1, iv 1, iv 2, iv 1, iv 0, iv 0, iv 0, iv 0, iv 0, .ref (2), .ref (3), .ref (4)]), zI 7, zI 7, zI 40, zQ 8, zI 8, zQ 2, zI 2] rfl ?_
  refine n_putF (i := 0) hn rfl rfl ff_X5_34 (fun _ _ _ h => by cases h; rfl) rfl (Or.inr ⟨8, rfl, show 9 ≤ _ from Nat.le_of_ble_eq_true rfl, (by decide)⟩) (fun _ => rfl) (fun _ => rfl) (show 7 ≤ _ from Nat.le_of_ble_eq_true rfl) dX5_init_54 ?_
  refine n_nrm [.inr (5, [.ref (1), .ref (5), .ref (6), iv 0, iv 0, .ref (7), .ref (8), .null, .null, iv 0, .null, .null, .null, .null, .null, iv 0]), .inr (3, [iv 300, iv 12, iv 30, iv 1, iv 1, iv 1, iv 2, iv 1, iv 0, iv 0, iv 0, iv 0, iv 0, .ref (2), .ref (3), .ref (4)]), zI 7, zI 7, zI 40, zQ 8, zI 8, zQ 2, zI 2] rfl ?_
  refine g_aload0 dX5_init_57 ?_
  refine n_new (q := 9) (fs := nw2) hn rfl rfl (by decide) (by decide) ⟨bL_of rfl, bS_of rfl⟩ (ci := 2) rfl (tt1 126 rfl rfl) ⟨(tt1 127 rfl rfl), (tt1 3 rfl rfl)⟩ nwD2 nwR2 dX5_init_58 (by decide) (by decide) ?_
  refine g_dup rfl dX5_init_61 ?_
  refine n_call (q := 9) (fun Q hQ => mkR_ok hQ) hn rfl rfl oY_X2_init oN_X2_init lk_X5_39 rfl dX5_init_62 (by decide) (by decide) rfl ⟨bL_of rfl, bS_of rfl⟩ ?_
  refine n_nrm [.inr (5, [.ref (1), .ref (5), .ref (6), iv 0, iv 0, .ref (7), .ref (8), .null, .null, iv 0, .null, .null, .null, .null, .null, iv 0]), .inr (3, [iv 300, iv 12, iv 30, iv 1, iv 1, iv 1, iv 2, iv 1, iv 0, iv 0, iv 0, iv 0, iv 0, .ref (2), .ref (3), .ref (4)]), zI 7, zI 7, zI 40, zQ 8, zI 8, zQ 2, zI 2, .inr (2, [.ref (10), iv 0, iv 0, iv 0, iv 0, .ref (11), iv 0, iv 0, iv 0, iv 0, iv 0, .ref (15)]), zI 400, .inr (3, [iv 300, iv 12, iv 30, iv 1, iv 1, iv 1, iv 2, iv 1, iv 0, iv 0, iv 0, iv 0, iv 0, .ref (12), .ref (13), .ref (14)]), zI 7, zI 7, zI 40, zI 4] rfl ?_
  refine n_putF (i := 0) hn rfl rfl ff_X5_40 (fun _ _ _ h => by cases h; rfl) rfl (Or.inr ⟨9, rfl, show 10 ≤ _ from Nat.le_of_ble_eq_true rfl, (by decide)⟩) (fun _ => rfl) (fun _ => rfl) (show 8 ≤ _ from Nat.le_of_ble_eq_true rfl) dX5_init_65 ?_
  refine n_nrm [.inr (5, [.ref (1), .ref (5), .ref (6), iv 0, iv 0, .ref (7), .ref (8), .ref (9), .null, iv 0, .null, .null, .null, .null, .null, iv 0]), .inr (3, [iv 300, iv 12, iv 30, iv 1, iv 1, iv 1, iv 2, iv 1, iv 0, iv 0, iv 0, iv 0, iv 0, .ref (2), .ref (3), .ref (4)]), zI 7, zI 7, zI 40, zQ 8, zI 8, zQ 2, zI 2, .inr (2, [.ref (10), iv 0, iv 0, iv 0, iv 0, .ref (11), iv 0, iv 0, iv 0, iv 0, iv 0, .ref (15)]), zI 400, .inr (3, [iv 300, iv 12, iv 30, iv 1, iv 1, iv 1, iv 2, iv 1, iv 0, iv 0, iv 0, iv 0, iv 0, .ref (12), .ref (13), .ref (14)]), zI 7, zI 7, zI 40, zI 4] rfl ?_
  refine g_aload0 dX5_init_68 ?_
  refine g_bipush dX5_init_69 (by decide) ?_
  refine n_newI (N := 120) (q := 16) hn rfl rfl (by decide) (by decide) ⟨bL_of rfl, bS_of rfl⟩ (by decide) dX5_init_71 (by decide) (by decide) ?_
  refine n_nrm [.inr (5, [.ref (1), .ref (5), .ref (6), iv 0, iv 0, .ref (7), .ref (8), .ref (9), .null, iv 0, .null, .null, .null, .null, .null, iv 0]), .inr (3, [iv 300, iv 12, iv 30, iv 1, iv 1, iv 1, iv 2, iv 1, iv 0, iv 0, iv 0, iv 0, iv 0, .ref (2), .ref (3), .ref (4)]), zI 7, zI 7, zI 40, zQ 8, zI 8, zQ 2, zI 2, .inr (2, [.ref (10), iv 0, iv 0, iv 0, iv 0, .ref (11), iv 0, iv 0, iv 0, iv 0, iv 0, .ref (15)]), zI 400, .inr (3, [iv 300, iv 12, iv 30, iv 1, iv 1, iv 1, iv 2, iv 1, iv 0, iv 0, iv 0, iv 0, iv 0, .ref (12), .ref (13), .ref (14)]), zI 7, zI 7, zI 40, zI 4, zI 120] rfl ?_
  refine n_putF (i := 0) hn rfl rfl ff_X5_44 (fun _ _ _ h => by cases h; rfl) rfl (Or.inr ⟨16, rfl, show 17 ≤ _ from Nat.le_of_ble_eq_true rfl, (by decide)⟩) (fun _ => rfl) (fun _ => rfl) (show 9 ≤ _ from Nat.le_of_ble_eq_true rfl) dX5_init_73 ?_
  refine n_nrm [.inr (5, [.ref (1), .ref (5), .ref (6), iv 0, iv 0, .ref (7), .ref (8), .ref (9), .ref (16), iv 0, .null, .null, .null, .null, .null, iv 0]), .inr (3, [iv 300, iv 12, iv 30, iv 1, iv 1, iv 1, iv 2, iv 1, iv 0, iv 0, iv 0, iv 0, iv 0, .ref (2), .ref (3), .ref (4)]), zI 7, zI 7, zI 40, zQ 8, zI 8, zQ 2, zI 2, .inr (2, [.ref (10), iv 0, iv 0, iv 0, iv 0, .ref (11), iv 0, iv 0, iv 0, iv 0, iv 0, .ref (15)]), zI 400, .inr (3, [iv 300, iv 12, iv 30, iv 1, iv 1, iv 1, iv 2, iv 1, iv 0, iv 0, iv 0, iv 0, iv 0, .ref (12), .ref (13), .ref (14)]), zI 7, zI 7, zI 40, zI 4, zI 120] rfl ?_
  refine g_aload0 dX5_init_76 ?_
  refine g_iconst dX5_init_77 ?_
  refine n_put (i := 0) hn rfl rfl fl_X5_47 (fun _ _ _ h => by cases h; rfl) (Or.inl ⟨_, rfl⟩) (fun _ => rfl) (fun _ => rfl) (show 10 ≤ _ from Nat.le_of_ble_eq_true rfl) dX5_init_78 ?_
  refine n_nrm [.inr (5, [.ref (1), .ref (5), .ref (6), iv 0, iv 0, .ref (7), .ref (8), .ref (9), .ref (16), iv 0, .null, .null, .null, .null, .null, iv 0]), .inr (3, [iv 300, iv 12, iv 30, iv 1, iv 1, iv 1, iv 2, iv 1, iv 0, iv 0, iv 0, iv 0, iv 0, .ref (2), .ref (3), .ref (4)]), zI 7, zI 7, zI 40, zQ 8, zI 8, zQ 2, zI 2, .inr (2, [.ref (10), iv 0, iv 0, iv 0, iv 0, .ref (11), iv 0, iv 0, iv 0, iv 0, iv 0, .ref (15)]), zI 400, .inr (3, [iv 300, iv 12, iv 30, iv 1, iv 1, iv 1, iv 2, iv 1, iv 0, iv 0, iv 0, iv 0, iv 0, .ref (12), .ref (13), .ref (14)]), zI 7, zI 7, zI 40, zI 4, zI 120] rfl ?_
  refine g_aload0 dX5_init_81 ?_
  refine n_new (q := 17) (fs := nw1) hn rfl rfl (by decide) (by decide) ⟨bL_of rfl, bS_of rfl⟩ (ci := 1) rfl (tt1 176 rfl rfl) ⟨(tt1 177 rfl rfl), (tt1 4 rfl rfl)⟩ nwD1 nwR1 dX5_init_82 (by decide) (by decide) ?_
  refine g_dup rfl dX5_init_85 ?_
  refine n_call (q := 17) (fun Q hQ => mkF_ok hQ (by decide) rfl (by decide)) hn rfl rfl oY_X1_init oN_X1_init lk_X5_52 rfl dX5_init_86 (by decide) (by decide) rfl ⟨bL_of rfl, bS_of rfl⟩ ?_
  refine n_nrm [.inr (5, [.ref (1), .ref (5), .ref (6), iv 0, iv 0, .ref (7), .ref (8), .ref (9), .ref (16), iv 0, .null, .null, .null, .null, .null, iv 0]), .inr (3, [iv 300, iv 12, iv 30, iv 1, iv 1, iv 1, iv 2, iv 1, iv 0, iv 0, iv 0, iv 0, iv 0, .ref (2), .ref (3), .ref (4)]), zI 7, zI 7, zI 40, zQ 8, zI 8, zQ 2, zI 2, .inr (2, [.ref (10), iv 0, iv 0, iv 0, iv 0, .ref (11), iv 0, iv 0, iv 0, iv 0, iv 0, .ref (15)]), zI 400, .inr (3, [iv 300, iv 12, iv 30, iv 1, iv 1, iv 1, iv 2, iv 1, iv 0, iv 0, iv 0, iv 0, iv 0, .ref (12), .ref (13), .ref (14)]), zI 7, zI 7, zI 40, zI 4, zI 120, .inr (1, [iv 1, .ref (18), .ref (19), .ref (20), .ref (21), .ref (22), .ref (23)]), zI 1, zI 1, zI 1, zI 1, zI 1, zI 49] rfl ?_
  refine n_putF (i := 0) hn rfl rfl ff_X5_53 (fun _ _ _ h => by cases h; rfl) rfl (Or.inr ⟨17, rfl, show 18 ≤ _ from Nat.le_of_ble_eq_true rfl, (by decide)⟩) (fun _ => rfl) (fun _ => rfl) (show 11 ≤ _ from Nat.le_of_ble_eq_true rfl) dX5_init_89 ?_
  refine n_nrm [.inr (5, [.ref (1), .ref (5), .ref (6), iv 0, iv 0, .ref (7), .ref (8), .ref (9), .ref (16), iv 0, .ref (17), .null, .null, .null, .null, iv 0]), .inr (3, [iv 300, iv 12, iv 30, iv 1, iv 1, iv 1, iv 2, iv 1, iv 0, iv 0, iv 0, iv 0, iv 0, .ref (2), .ref (3), .ref (4)]), zI 7, zI 7, zI 40, zQ 8, zI 8, zQ 2, zI 2, .inr (2, [.ref (10), iv 0, iv 0, iv 0, iv 0, .ref (11), iv 0, iv 0, iv 0, iv 0, iv 0, .ref (15)]), zI 400, .inr (3, [iv 300, iv 12, iv 30, iv 1, iv 1, iv 1, iv 2, iv 1, iv 0, iv 0, iv 0, iv 0, iv 0, .ref (12), .ref (13), .ref (14)]), zI 7, zI 7, zI 40, zI 4, zI 120, .inr (1, [iv 1, .ref (18), .ref (19), .ref (20), .ref (21), .ref (22), .ref (23)]), zI 1, zI 1, zI 1, zI 1, zI 1, zI 49] rfl ?_
  refine g_aload0 dX5_init_92 ?_
  refine n_new (q := 24) (fs := nw0) hn rfl rfl (by decide) (by decide) ⟨bL_of rfl, bS_of rfl⟩ (ci := 0) rfl (tt1 210 rfl rfl) ⟨(tt1 211 rfl rfl), (tt1 5 rfl rfl)⟩ nwD0 nwR0 dX5_init_93 (by decide) (by decide) ?_
  refine g_dup rfl dX5_init_96 ?_
  refine n_call (q := 24) (fun Q hQ => mkC_ok hQ (by decide) rfl (by decide)) hn rfl rfl oY_X0_init oN_X0_init lk_X5_59 rfl dX5_init_97 (by decide) (by decide) rfl ⟨bL_of rfl, bS_of rfl⟩ ?_
  refine n_nrm [.inr (5, [.ref (1), .ref (5), .ref (6), iv 0, iv 0, .ref (7), .ref (8), .ref (9), .ref (16), iv 0, .ref (17), .null, .null, .null, .null, iv 0]), .inr (3, [iv 300, iv 12, iv 30, iv 1, iv 1, iv 1, iv 2, iv 1, iv 0, iv 0, iv 0, iv 0, iv 0, .ref (2), .ref (3), .ref (4)]), zI 7, zI 7, zI 40, zQ 8, zI 8, zQ 2, zI 2, .inr (2, [.ref (10), iv 0, iv 0, iv 0, iv 0, .ref (11), iv 0, iv 0, iv 0, iv 0, iv 0, .ref (15)]), zI 400, .inr (3, [iv 300, iv 12, iv 30, iv 1, iv 1, iv 1, iv 2, iv 1, iv 0, iv 0, iv 0, iv 0, iv 0, .ref (12), .ref (13), .ref (14)]), zI 7, zI 7, zI 40, zI 4, zI 120, .inr (1, [iv 1, .ref (18), .ref (19), .ref (20), .ref (21), .ref (22), .ref (23)]), zI 1, zI 1, zI 1, zI 1, zI 1, zI 49, .inr (0, [.ref (25), .ref (26), .ref (27), .ref (28), .ref (29), .ref (30), .ref (31)]), zI 26, zI 25, zI 25, zI 25, zI 2, zI 2, zI 2] rfl ?_
  refine n_putF (i := 0) hn rfl rfl ff_X5_60 (fun _ _ _ h => by cases h; rfl) rfl (Or.inr ⟨24, rfl, show 25 ≤ _ from Nat.le_of_ble_eq_true rfl, (by decide)⟩) (fun _ => rfl) (fun _ => rfl) (show 12 ≤ _ from Nat.le_of_ble_eq_true rfl) dX5_init_100 ?_
  refine n_nrm [.inr (5, [.ref (1), .ref (5), .ref (6), iv 0, iv 0, .ref (7), .ref (8), .ref (9), .ref (16), iv 0, .ref (17), .ref (24), .null, .null, .null, iv 0]), .inr (3, [iv 300, iv 12, iv 30, iv 1, iv 1, iv 1, iv 2, iv 1, iv 0, iv 0, iv 0, iv 0, iv 0, .ref (2), .ref (3), .ref (4)]), zI 7, zI 7, zI 40, zQ 8, zI 8, zQ 2, zI 2, .inr (2, [.ref (10), iv 0, iv 0, iv 0, iv 0, .ref (11), iv 0, iv 0, iv 0, iv 0, iv 0, .ref (15)]), zI 400, .inr (3, [iv 300, iv 12, iv 30, iv 1, iv 1, iv 1, iv 2, iv 1, iv 0, iv 0, iv 0, iv 0, iv 0, .ref (12), .ref (13), .ref (14)]), zI 7, zI 7, zI 40, zI 4, zI 120, .inr (1, [iv 1, .ref (18), .ref (19), .ref (20), .ref (21), .ref (22), .ref (23)]), zI 1, zI 1, zI 1, zI 1, zI 1, zI 49, .inr (0, [.ref (25), .ref (26), .ref (27), .ref (28), .ref (29), .ref (30), .ref (31)]), zI 26, zI 25, zI 25, zI 25, zI 2, zI 2, zI 2] rfl ?_
  refine g_aload0 dX5_init_103 ?_
  refine n_new (q := 32) (fs := nw0) hn rfl rfl (by decide) (by decide) ⟨bL_of rfl, bS_of rfl⟩ (ci := 0) rfl (tt1 210 rfl rfl) ⟨(tt1 211 rfl rfl), (tt1 5 rfl rfl)⟩ nwD0 nwR0 dX5_init_104 (by decide) (by decide) ?_
  refine g_dup rfl dX5_init_107 ?_
  refine n_call (q := 32) (fun Q hQ => mkC_ok hQ (by decide) rfl (by decide)) hn rfl rfl oY_X0_init oN_X0_init lk_X5_59 rfl dX5_init_108 (by decide) (by decide) rfl ⟨bL_of rfl, bS_of rfl⟩ ?_
  refine n_nrm [.inr (5, [.ref (1), .ref (5), .ref (6), iv 0, iv 0, .ref (7), .ref (8), .ref (9), .ref (16), iv 0, .ref (17), .ref (24), .null, .null, .null, iv 0]), .inr (3, [iv 300, iv 12, iv 30, iv 1, iv 1, iv 1, iv 2, iv 1, iv 0, iv 0, iv 0, iv 0, iv 0, .ref (2), .ref (3), .ref (4)]), zI 7, zI 7, zI 40, zQ 8, zI 8, zQ 2, zI 2, .inr (2, [.ref (10), iv 0, iv 0, iv 0, iv 0, .ref (11), iv 0, iv 0, iv 0, iv 0, iv 0, .ref (15)]), zI 400, .inr (3, [iv 300, iv 12, iv 30, iv 1, iv 1, iv 1, iv 2, iv 1, iv 0, iv 0, iv 0, iv 0, iv 0, .ref (12), .ref (13), .ref (14)]), zI 7, zI 7, zI 40, zI 4, zI 120, .inr (1, [iv 1, .ref (18), .ref (19), .ref (20), .ref (21), .ref (22), .ref (23)]), zI 1, zI 1, zI 1, zI 1, zI 1, zI 49, .inr (0, [.ref (25), .ref (26), .ref (27), .ref (28), .ref (29), .ref (30), .ref (31)]), zI 26, zI 25, zI 25, zI 25, zI 2, zI 2, zI 2, .inr (0, [.ref (33), .ref (34), .ref (35), .ref (36), .ref (37), .ref (38), .ref (39)]), zI 26, zI 25, zI 25, zI 25, zI 2, zI 2, zI 2] rfl ?_
  refine n_putF (i := 0) hn rfl rfl ff_X5_64 (fun _ _ _ h => by cases h; rfl) rfl (Or.inr ⟨32, rfl, show 33 ≤ _ from Nat.le_of_ble_eq_true rfl, (by decide)⟩) (fun _ => rfl) (fun _ => rfl) (show 13 ≤ _ from Nat.le_of_ble_eq_true rfl) dX5_init_111 ?_
  refine n_nrm [.inr (5, [.ref (1), .ref (5), .ref (6), iv 0, iv 0, .ref (7), .ref (8), .ref (9), .ref (16), iv 0, .ref (17), .ref (24), .ref (32), .null, .null, iv 0]), .inr (3, [iv 300, iv 12, iv 30, iv 1, iv 1, iv 1, iv 2, iv 1, iv 0, iv 0, iv 0, iv 0, iv 0, .ref (2), .ref (3), .ref (4)]), zI 7, zI 7, zI 40, zQ 8, zI 8, zQ 2, zI 2, .inr (2, [.ref (10), iv 0, iv 0, iv 0, iv 0, .ref (11), iv 0, iv 0, iv 0, iv 0, iv 0, .ref (15)]), zI 400, .inr (3, [iv 300, iv 12, iv 30, iv 1, iv 1, iv 1, iv 2, iv 1, iv 0, iv 0, iv 0, iv 0, iv 0, .ref (12), .ref (13), .ref (14)]), zI 7, zI 7, zI 40, zI 4, zI 120, .inr (1, [iv 1, .ref (18), .ref (19), .ref (20), .ref (21), .ref (22), .ref (23)]), zI 1, zI 1, zI 1, zI 1, zI 1, zI 49, .inr (0, [.ref (25), .ref (26), .ref (27), .ref (28), .ref (29), .ref (30), .ref (31)]), zI 26, zI 25, zI 25, zI 25, zI 2, zI 2, zI 2, .inr (0, [.ref (33), .ref (34), .ref (35), .ref (36), .ref (37), .ref (38), .ref (39)]), zI 26, zI 25, zI 25, zI 25, zI 2, zI 2, zI 2] rfl ?_
  refine g_aload0 dX5_init_114 ?_
  refine n_new (q := 40) (fs := nw4) hn rfl rfl (by decide) (by decide) ⟨bL_of rfl, bS_of rfl⟩ (ci := 4) rfl (tt2 3 rfl rfl) ⟨(tt2 4 rfl rfl), (tt1 6 rfl rfl)⟩ nwD4 nwR4 dX5_init_115 (by decide) (by decide) ?_
  refine g_dup rfl dX5_init_118 ?_
  refine n_call (q := 40) (fun Q hQ => mkW_ok hQ (by decide) rfl (by decide)) hn rfl rfl oY_X4_init oN_X4_init lk_X5_69 rfl dX5_init_119 (by decide) (by decide) rfl ⟨bL_of rfl, bS_of rfl⟩ ?_
  refine n_nrm [.inr (5, [.ref (1), .ref (5), .ref (6), iv 0, iv 0, .ref (7), .ref (8), .ref (9), .ref (16), iv 0, .ref (17), .ref (24), .ref (32), .null, .null, iv 0]), .inr (3, [iv 300, iv 12, iv 30, iv 1, iv 1, iv 1, iv 2, iv 1, iv 0, iv 0, iv 0, iv 0, iv 0, .ref (2), .ref (3), .ref (4)]), zI 7, zI 7, zI 40, zQ 8, zI 8, zQ 2, zI 2, .inr (2, [.ref (10), iv 0, iv 0, iv 0, iv 0, .ref (11), iv 0, iv 0, iv 0, iv 0, iv 0, .ref (15)]), zI 400, .inr (3, [iv 300, iv 12, iv 30, iv 1, iv 1, iv 1, iv 2, iv 1, iv 0, iv 0, iv 0, iv 0, iv 0, .ref (12), .ref (13), .ref (14)]), zI 7, zI 7, zI 40, zI 4, zI 120, .inr (1, [iv 1, .ref (18), .ref (19), .ref (20), .ref (21), .ref (22), .ref (23)]), zI 1, zI 1, zI 1, zI 1, zI 1, zI 49, .inr (0, [.ref (25), .ref (26), .ref (27), .ref (28), .ref (29), .ref (30), .ref (31)]), zI 26, zI 25, zI 25, zI 25, zI 2, zI 2, zI 2, .inr (0, [.ref (33), .ref (34), .ref (35), .ref (36), .ref (37), .ref (38), .ref (39)]), zI 26, zI 25, zI 25, zI 25, zI 2, zI 2, zI 2, .inr (4, [iv 0, .ref (41), .ref (42), .ref (43), .ref (44), .ref (45)]), zI 40, zI 40, zI 40, zI 2, zI 2] rfl ?_
  refine n_putF (i := 0) hn rfl rfl ff_X5_70 (fun _ _ _ h => by cases h; rfl) rfl (Or.inr ⟨40, rfl, show 41 ≤ _ from Nat.le_of_ble_eq_true rfl, (by decide)⟩) (fun _ => rfl) (fun _ => rfl) (show 14 ≤ _ from Nat.le_of_ble_eq_true rfl) dX5_init_122 ?_
  refine n_nrm [.inr (5, [.ref (1), .ref (5), .ref (6), iv 0, iv 0, .ref (7), .ref (8), .ref (9), .ref (16), iv 0, .ref (17), .ref (24), .ref (32), .ref (40), .null, iv 0]), .inr (3, [iv 300, iv 12, iv 30, iv 1, iv 1, iv 1, iv 2, iv 1, iv 0, iv 0, iv 0, iv 0, iv 0, .ref (2), .ref (3), .ref (4)]), zI 7, zI 7, zI 40, zQ 8, zI 8, zQ 2, zI 2, .inr (2, [.ref (10), iv 0, iv 0, iv 0, iv 0, .ref (11), iv 0, iv 0, iv 0, iv 0, iv 0, .ref (15)]), zI 400, .inr (3, [iv 300, iv 12, iv 30, iv 1, iv 1, iv 1, iv 2, iv 1, iv 0, iv 0, iv 0, iv 0, iv 0, .ref (12), .ref (13), .ref (14)]), zI 7, zI 7, zI 40, zI 4, zI 120, .inr (1, [iv 1, .ref (18), .ref (19), .ref (20), .ref (21), .ref (22), .ref (23)]), zI 1, zI 1, zI 1, zI 1, zI 1, zI 49, .inr (0, [.ref (25), .ref (26), .ref (27), .ref (28), .ref (29), .ref (30), .ref (31)]), zI 26, zI 25, zI 25, zI 25, zI 2, zI 2, zI 2, .inr (0, [.ref (33), .ref (34), .ref (35), .ref (36), .ref (37), .ref (38), .ref (39)]), zI 26, zI 25, zI 25, zI 25, zI 2, zI 2, zI 2, .inr (4, [iv 0, .ref (41), .ref (42), .ref (43), .ref (44), .ref (45)]), zI 40, zI 40, zI 40, zI 2, zI 2] rfl ?_
  refine g_aload0 dX5_init_125 ?_
  refine n_new (q := 46) (fs := nw4) hn rfl rfl (by decide) (by decide) ⟨bL_of rfl, bS_of rfl⟩ (ci := 4) rfl (tt2 3 rfl rfl) ⟨(tt2 4 rfl rfl), (tt1 6 rfl rfl)⟩ nwD4 nwR4 dX5_init_126 (by decide) (by decide) ?_
  refine g_dup rfl dX5_init_129 ?_
  refine n_call (q := 46) (fun Q hQ => mkW_ok hQ (by decide) rfl (by decide)) hn rfl rfl oY_X4_init oN_X4_init lk_X5_69 rfl dX5_init_130 (by decide) (by decide) rfl ⟨bL_of rfl, bS_of rfl⟩ ?_
  refine n_nrm [.inr (5, [.ref (1), .ref (5), .ref (6), iv 0, iv 0, .ref (7), .ref (8), .ref (9), .ref (16), iv 0, .ref (17), .ref (24), .ref (32), .ref (40), .null, iv 0]), .inr (3, [iv 300, iv 12, iv 30, iv 1, iv 1, iv 1, iv 2, iv 1, iv 0, iv 0, iv 0, iv 0, iv 0, .ref (2), .ref (3), .ref (4)]), zI 7, zI 7, zI 40, zQ 8, zI 8, zQ 2, zI 2, .inr (2, [.ref (10), iv 0, iv 0, iv 0, iv 0, .ref (11), iv 0, iv 0, iv 0, iv 0, iv 0, .ref (15)]), zI 400, .inr (3, [iv 300, iv 12, iv 30, iv 1, iv 1, iv 1, iv 2, iv 1, iv 0, iv 0, iv 0, iv 0, iv 0, .ref (12), .ref (13), .ref (14)]), zI 7, zI 7, zI 40, zI 4, zI 120, .inr (1, [iv 1, .ref (18), .ref (19), .ref (20), .ref (21), .ref (22), .ref (23)]), zI 1, zI 1, zI 1, zI 1, zI 1, zI 49, .inr (0, [.ref (25), .ref (26), .ref (27), .ref (28), .ref (29), .ref (30), .ref (31)]), zI 26, zI 25, zI 25, zI 25, zI 2, zI 2, zI 2, .inr (0, [.ref (33), .ref (34), .ref (35), .ref (36), .ref (37), .ref (38), .ref (39)]), zI 26, zI 25, zI 25, zI 25, zI 2, zI 2, zI 2, .inr (4, [iv 0, .ref (41), .ref (42), .ref (43), .ref (44), .ref (45)]), zI 40, zI 40, zI 40, zI 2, zI 2, .inr (4, [iv 0, .ref (47), .ref (48), .ref (49), .ref (50), .ref (51)]), zI 40, zI 40, zI 40, zI 2, zI 2] rfl ?_
  refine n_putF (i := 0) hn rfl rfl ff_X5_74 (fun _ _ _ h => by cases h; rfl) rfl (Or.inr ⟨46, rfl, show 47 ≤ _ from Nat.le_of_ble_eq_true rfl, (by decide)⟩) (fun _ => rfl) (fun _ => rfl) (show 15 ≤ _ from Nat.le_of_ble_eq_true rfl) dX5_init_133 ?_
  refine n_nrm [.inr (5, [.ref (1), .ref (5), .ref (6), iv 0, iv 0, .ref (7), .ref (8), .ref (9), .ref (16), iv 0, .ref (17), .ref (24), .ref (32), .ref (40), .ref (46), iv 0]), .inr (3, [iv 300, iv 12, iv 30, iv 1, iv 1, iv 1, iv 2, iv 1, iv 0, iv 0, iv 0, iv 0, iv 0, .ref (2), .ref (3), .ref (4)]), zI 7, zI 7, zI 40, zQ 8, zI 8, zQ 2, zI 2, .inr (2, [.ref (10), iv 0, iv 0, iv 0, iv 0, .ref (11), iv 0, iv 0, iv 0, iv 0, iv 0, .ref (15)]), zI 400, .inr (3, [iv 300, iv 12, iv 30, iv 1, iv 1, iv 1, iv 2, iv 1, iv 0, iv 0, iv 0, iv 0, iv 0, .ref (12), .ref (13), .ref (14)]), zI 7, zI 7, zI 40, zI 4, zI 120, .inr (1, [iv 1, .ref (18), .ref (19), .ref (20), .ref (21), .ref (22), .ref (23)]), zI 1, zI 1, zI 1, zI 1, zI 1, zI 49, .inr (0, [.ref (25), .ref (26), .ref (27), .ref (28), .ref (29), .ref (30), .ref (31)]), zI 26, zI 25, zI 25, zI 25, zI 2, zI 2, zI 2, .inr (0, [.ref (33), .ref (34), .ref (35), .ref (36), .ref (37), .ref (38), .ref (39)]), zI 26, zI 25, zI 25, zI 25, zI 2, zI 2, zI 2, .inr (4, [iv 0, .ref (41), .ref (42), .ref (43), .ref (44), .ref (45)]), zI 40, zI 40, zI 40, zI 2, zI 2, .inr (4, [iv 0, .ref (47), .ref (48), .ref (49), .ref (50), .ref (51)]), zI 40, zI 40, zI 40, zI 2, zI 2] rfl ?_
  refine g_aload0 dX5_init_136 ?_
  refine g_iconst dX5_init_137 ?_
  refine n_put (i := 0) hn rfl rfl fl_X5_77 (fun _ _ _ h => by cases h; rfl) (Or.inl ⟨_, rfl⟩) (fun _ => rfl) (fun _ => rfl) (show 16 ≤ _ from Nat.le_of_ble_eq_true rfl) dX5_init_138 ?_
  refine n_nrm [.inr (5, [.ref (1), .ref (5), .ref (6), iv 0, iv 0, .ref (7), .ref (8), .ref (9), .ref (16), iv 0, .ref (17), .ref (24), .ref (32), .ref (40), .ref (46), iv 0]), .inr (3, [iv 300, iv 12, iv 30, iv 1, iv 1, iv 1, iv 2, iv 1, iv 0, iv 0, iv 0, iv 0, iv 0, .ref (2), .ref (3), .ref (4)]), zI 7, zI 7, zI 40, zQ 8, zI 8, zQ 2, zI 2, .inr (2, [.ref (10), iv 0, iv 0, iv 0, iv 0, .ref (11), iv 0, iv 0, iv 0, iv 0, iv 0, .ref (15)]), zI 400, .inr (3, [iv 300, iv 12, iv 30, iv 1, iv 1, iv 1, iv 2, iv 1, iv 0, iv 0, iv 0, iv 0, iv 0, .ref (12), .ref (13), .ref (14)]), zI 7, zI 7, zI 40, zI 4, zI 120, .inr (1, [iv 1, .ref (18), .ref (19), .ref (20), .ref (21), .ref (22), .ref (23)]), zI 1, zI 1, zI 1, zI 1, zI 1, zI 49, .inr (0, [.ref (25), .ref (26), .ref (27), .ref (28), .ref (29), .ref (30), .ref (31)]), zI 26, zI 25, zI 25, zI 25, zI 2, zI 2, zI 2, .inr (0, [.ref (33), .ref (34), .ref (35), .ref (36), .ref (37), .ref (38), .ref (39)]), zI 26, zI 25, zI 25, zI 25, zI 2, zI 2, zI 2, .inr (4, [iv 0, .ref (41), .ref (42), .ref (43), .ref (44), .ref (45)]), zI 40, zI 40, zI 40, zI 2, zI 2, .inr (4, [iv 0, .ref (47), .ref (48), .ref (49), .ref (50), .ref (51)]), zI 40, zI 40, zI 40, zI 2, zI 2] rfl ?_
  refine g_iconst dX5_init_141 ?_
  refine g_istore1 dX5_init_142 rfl (by decide) ?_
  refine g_iload1 dX5_init_143 ?_
  refine g_aload0 dX5_init_144 ?_
  refine n_get (i := 0) hn rfl rfl fl_X5_16 rfl dX5_init_145 ?_
  refine n_alen (i := 5) hn rfl rfl (by decide) dX5_init_148 ?_
  refine g_icmp_ge ⟨by decide, by decide⟩ ⟨by decide, by decide⟩ (tgt := 171) dX5_init_149 rfl (fun h149 => absurd h149 (by decide)) (fun h149 => ?_)
  refine g_aload0 dX5_init_152 ?_
  refine n_get (i := 0) hn rfl rfl fl_X5_16 rfl dX5_init_153 ?_
  refine g_iload1 dX5_init_156 ?_
  refine n_new (q := 52) (fs := nw3) hn rfl rfl (by decide) (by decide) ⟨bL_of rfl, bS_of rfl⟩ (ci := 3) rfl (tt1 27 rfl rfl) ⟨(tt1 28 rfl rfl), (tt1 2 rfl rfl)⟩ nwD3 nwR3 dX5_init_157 (by decide) (by decide) ?_
  refine g_dup rfl dX5_init_160 ?_
  refine n_call (q := 52) (fun Q hQ => mkS_ok hQ (by decide) rfl (by decide)) hn rfl rfl oY_X3_init oN_X3_init lk_X5_9 rfl dX5_init_161 (by decide) (by decide) rfl ⟨bL_of rfl, bS_of rfl⟩ ?_
  refine n_nrm [.inr (5, [.ref (1), .ref (5), .ref (6), iv 0, iv 0, .ref (7), .ref (8), .ref (9), .ref (16), iv 0, .ref (17), .ref (24), .ref (32), .ref (40), .ref (46), iv 0]), .inr (3, [iv 300, iv 12, iv 30, iv 1, iv 1, iv 1, iv 2, iv 1, iv 0, iv 0, iv 0, iv 0, iv 0, .ref (2), .ref (3), .ref (4)]), zI 7, zI 7, zI 40, zQ 8, zI 8, zQ 2, zI 2, .inr (2, [.ref (10), iv 0, iv 0, iv 0, iv 0, .ref (11), iv 0, iv 0, iv 0, iv 0, iv 0, .ref (15)]), zI 400, .inr (3, [iv 300, iv 12, iv 30, iv 1, iv 1, iv 1, iv 2, iv 1, iv 0, iv 0, iv 0, iv 0, iv 0, .ref (12), .ref (13), .ref (14)]), zI 7, zI 7, zI 40, zI 4, zI 120, .inr (1, [iv 1, .ref (18), .ref (19), .ref (20), .ref (21), .ref (22), .ref (23)]), zI 1, zI 1, zI 1, zI 1, zI 1, zI 49, .inr (0, [.ref (25), .ref (26), .ref (27), .ref (28), .ref (29), .ref (30), .ref (31)]), zI 26, zI 25, zI 25, zI 25, zI 2, zI 2, zI 2, .inr (0, [.ref (33), .ref (34), .ref (35), .ref (36), .ref (37), .ref (38), .ref (39)]), zI 26, zI 25, zI 25, zI 25, zI 2, zI 2, zI 2, .inr (4, [iv 0, .ref (41), .ref (42), .ref (43), .ref (44), .ref (45)]), zI 40, zI 40, zI 40, zI 2, zI 2, .inr (4, [iv 0, .ref (47), .ref (48), .ref (49), .ref (50), .ref (51)]), zI 40, zI 40, zI 40, zI 2, zI 2, .inr (3, [iv 300, iv 12, iv 30, iv 1, iv 1, iv 1, iv 2, iv 1, iv 0, iv 0, iv 0, iv 0, iv 0, .ref (53), .ref (54), .ref (55)]), zI 7, zI 7, zI 40] rfl ?_
  refine n_aastQ (i := 5) (r := 52) (N := 8) (b := 52) (m := 0) (by rw [aQ_z]; rfl) hn rfl rfl rfl rfl ⟨by decide, by decide⟩ (by decide) rfl rfl dX5_init_164 ?_
  refine n_nrm [.inr (5, [.ref (1), .ref (5), .ref (6), iv 0, iv 0, .ref (7), .ref (8), .ref (9), .ref (16), iv 0, .ref (17), .ref (24), .ref (32), .ref (40), .ref (46), iv 0]), .inr (3, [iv 300, iv 12, iv 30, iv 1, iv 1, iv 1, iv 2, iv 1, iv 0, iv 0, iv 0, iv 0, iv 0, .ref (2), .ref (3), .ref (4)]), zI 7, zI 7, zI 40, aQ 8 52 1, zI 8, zQ 2, zI 2, .inr (2, [.ref (10), iv 0, iv 0, iv 0, iv 0, .ref (11), iv 0, iv 0, iv 0, iv 0, iv 0, .ref (15)]), zI 400, .inr (3, [iv 300, iv 12, iv 30, iv 1, iv 1, iv 1, iv 2, iv 1, iv 0, iv 0, iv 0, iv 0, iv 0, .ref (12), .ref (13), .ref (14)]), zI 7, zI 7, zI 40, zI 4, zI 120, .inr (1, [iv 1, .ref (18), .ref (19), .ref (20), .ref (21), .ref (22), .ref (23)]), zI 1, zI 1, zI 1, zI 1, zI 1, zI 49, .inr (0, [.ref (25), .ref (26), .ref (27), .ref (28), .ref (29), .ref (30), .ref (31)]), zI 26, zI 25, zI 25, zI 25, zI 2, zI 2, zI 2, .inr (0, [.ref (33), .ref (34), .ref (35), .ref (36), .ref (37), .ref (38), .ref (39)]), zI 26, zI 25, zI 25, zI 25, zI 2, zI 2, zI 2, .inr (4, [iv 0, .ref (41), .ref (42), .ref (43), .ref (44), .ref (45)]), zI 40, zI 40, zI 40, zI 2, zI 2, .inr (4, [iv 0, .ref (47), .ref (48), .ref (49), .ref (50), .ref (51)]), zI 40, zI 40, zI 40, zI 2, zI 2, .inr (3, [iv 300, iv 12, iv 30, iv 1, iv 1, iv 1, iv 2, iv 1, iv 0, iv 0, iv 0, iv 0, iv 0, .ref (53), .ref (54), .ref (55)]), zI 7, zI 7, zI 40] rfl ?_
  refine g_iinc1 dX5_init_165 rfl (by decide) ?_
  refine g_goto (tgt := 143) dX5_init_168 rfl ?_
  refine g_iload1 dX5_init_143 ?_
  refine g_aload0 dX5_init_144 ?_
  refine n_get (i := 0) hn rfl rfl fl_X5_16 rfl dX5_init_145 ?_
  refine n_alen (i := 5) hn rfl rfl (by decide) dX5_init_148 ?_
  refine g_icmp_ge ⟨by decide, by decide⟩ ⟨by decide, by decide⟩ (tgt := 171) dX5_init_149 rfl (fun h149 => absurd h149 (by decide)) (fun h149 => ?_)
  refine g_aload0 dX5_init_152 ?_
  refine n_get (i := 0) hn rfl rfl fl_X5_16 rfl dX5_init_153 ?_
  refine g_iload1 dX5_init_156 ?_
  refine n_new (q := 56) (fs := nw3) hn rfl rfl (by decide) (by decide) ⟨bL_of rfl, bS_of rfl⟩ (ci := 3) rfl (tt1 27 rfl rfl) ⟨(tt1 28 rfl rfl), (tt1 2 rfl rfl)⟩ nwD3 nwR3 dX5_init_157 (by decide) (by decide) ?_
  refine g_dup rfl dX5_init_160 ?_
  refine n_call (q := 56) (fun Q hQ => mkS_ok hQ (by decide) rfl (by decide)) hn rfl rfl oY_X3_init oN_X3_init lk_X5_9 rfl dX5_init_161 (by decide) (by decide) rfl ⟨bL_of rfl, bS_of rfl⟩ ?_
  refine n_nrm [.inr (5, [.ref (1), .ref (5), .ref (6), iv 0, iv 0, .ref (7), .ref (8), .ref (9), .ref (16), iv 0, .ref (17), .ref (24), .ref (32), .ref (40), .ref (46), iv 0]), .inr (3, [iv 300, iv 12, iv 30, iv 1, iv 1, iv 1, iv 2, iv 1, iv 0, iv 0, iv 0, iv 0, iv 0, .ref (2), .ref (3), .ref (4)]), zI 7, zI 7, zI 40, aQ 8 52 1, zI 8, zQ 2, zI 2, .inr (2, [.ref (10), iv 0, iv 0, iv 0, iv 0, .ref (11), iv 0, iv 0, iv 0, iv 0, iv 0, .ref (15)]), zI 400, .inr (3, [iv 300, iv 12, iv 30, iv 1, iv 1, iv 1, iv 2, iv 1, iv 0, iv 0, iv 0, iv 0, iv 0, .ref (12), .ref (13), .ref (14)]), zI 7, zI 7, zI 40, zI 4, zI 120, .inr (1, [iv 1, .ref (18), .ref (19), .ref (20), .ref (21), .ref (22), .ref (23)]), zI 1, zI 1, zI 1, zI 1, zI 1, zI 49, .inr (0, [.ref (25), .ref (26), .ref (27), .ref (28), .ref (29), .ref (30), .ref (31)]), zI 26, zI 25, zI 25, zI 25, zI 2, zI 2, zI 2, .inr (0, [.ref (33), .ref (34), .ref (35), .ref (36), .ref (37), .ref (38), .ref (39)]), zI 26, zI 25, zI 25, zI 25, zI 2, zI 2, zI 2, .inr (4, [iv 0, .ref (41), .ref (42), .ref (43), .ref (44), .ref (45)]), zI 40, zI 40, zI 40, zI 2, zI 2, .inr (4, [iv 0, .ref (47), .ref (48), .ref (49), .ref (50), .ref (51)]), zI 40, zI 40, zI 40, zI 2, zI 2, .inr (3, [iv 300, iv 12, iv 30, iv 1, iv 1, iv 1, iv 2, iv 1, iv 0, iv 0, iv 0, iv 0, iv 0, .ref (53), .ref (54), .ref (55)]), zI 7, zI 7, zI 40, .inr (3, [iv 300, iv 12, iv 30, iv 1, iv 1, iv 1, iv 2, iv 1, iv 0, iv 0, iv 0, iv 0, iv 0, .ref (57), .ref (58), .ref (59)]), zI 7, zI 7, zI 40] rfl ?_
  refine n_aastQ (i := 5) (r := 56) (N := 8) (b := 52) (m := 1) rfl hn rfl rfl rfl rfl ⟨by decide, by decide⟩ (by decide) rfl rfl dX5_init_164 ?_
  refine n_nrm [.inr (5, [.ref (1), .ref (5), .ref (6), iv 0, iv 0, .ref (7), .ref (8), .ref (9), .ref (16), iv 0, .ref (17), .ref (24), .ref (32), .ref (40), .ref (46), iv 0]), .inr (3, [iv 300, iv 12, iv 30, iv 1, iv 1, iv 1, iv 2, iv 1, iv 0, iv 0, iv 0, iv 0, iv 0, .ref (2), .ref (3), .ref (4)]), zI 7, zI 7, zI 40, aQ 8 52 2, zI 8, zQ 2, zI 2, .inr (2, [.ref (10), iv 0, iv 0, iv 0, iv 0, .ref (11), iv 0, iv 0, iv 0, iv 0, iv 0, .ref (15)]), zI 400, .inr (3, [iv 300, iv 12, iv 30, iv 1, iv 1, iv 1, iv 2, iv 1, iv 0, iv 0, iv 0, iv 0, iv 0, .ref (12), .ref (13), .ref (14)]), zI 7, zI 7, zI 40, zI 4, zI 120, .inr (1, [iv 1, .ref (18), .ref (19), .ref (20), .ref (21), .ref (22), .ref (23)]), zI 1, zI 1, zI 1, zI 1, zI 1, zI 49, .inr (0, [.ref (25), .ref (26), .ref (27), .ref (28), .ref (29), .ref (30), .ref (31)]), zI 26, zI 25, zI 25, zI 25, zI 2, zI 2, zI 2, .inr (0, [.ref (33), .ref (34), .ref (35), .ref (36), .ref (37), .ref (38), .ref (39)]), zI 26, zI 25, zI 25, zI 25, zI 2, zI 2, zI 2, .inr (4, [iv 0, .ref (41), .ref (42), .ref (43), .ref (44), .ref (45)]), zI 40, zI 40, zI 40, zI 2, zI 2, .inr (4, [iv 0, .ref (47), .ref (48), .ref (49), .ref (50), .ref (51)]), zI 40, zI 40, zI 40, zI 2, zI 2, .inr (3, [iv 300, iv 12, iv 30, iv 1, iv 1, iv 1, iv 2, iv 1, iv 0, iv 0, iv 0, iv 0, iv 0, .ref (53), .ref (54), .ref (55)]), zI 7, zI 7, zI 40, .inr (3, [iv 300, iv 12, iv 30, iv 1, iv 1, iv 1, iv 2, iv 1, iv 0, iv 0, iv 0, iv 0, iv 0, .ref (57), .ref (58), .ref (59)]), zI 7, zI 7, zI 40] rfl ?_
  refine g_iinc1 dX5_init_165 rfl (by decide) ?_
  refine g_goto (tgt := 143) dX5_init_168 rfl ?_
  refine g_iload1 dX5_init_143 ?_
  refine g_aload0 dX5_init_144 ?_
  refine n_get (i := 0) hn rfl rfl fl_X5_16 rfl dX5_init_145 ?_
  refine n_alen (i := 5) hn rfl rfl (by decide) dX5_init_148 ?_
  refine g_icmp_ge ⟨by decide, by decide⟩ ⟨by decide, by decide⟩ (tgt := 171) dX5_init_149 rfl (fun h149 => absurd h149 (by decide)) (fun h149 => ?_)
  refine g_aload0 dX5_init_152 ?_
  refine n_get (i := 0) hn rfl rfl fl_X5_16 rfl dX5_init_153 ?_
  refine g_iload1 dX5_init_156 ?_
  refine n_new (q := 60) (fs := nw3) hn rfl rfl (by decide) (by decide) ⟨bL_of rfl, bS_of rfl⟩ (ci := 3) rfl (tt1 27 rfl rfl) ⟨(tt1 28 rfl rfl), (tt1 2 rfl rfl)⟩ nwD3 nwR3 dX5_init_157 (by decide) (by decide) ?_
  refine g_dup rfl dX5_init_160 ?_
  refine n_call (q := 60) (fun Q hQ => mkS_ok hQ (by decide) rfl (by decide)) hn rfl rfl oY_X3_init oN_X3_init lk_X5_9 rfl dX5_init_161 (by decide) (by decide) rfl ⟨bL_of rfl, bS_of rfl⟩ ?_
  refine n_nrm [.inr (5, [.ref (1), .ref (5), .ref (6), iv 0, iv 0, .ref (7), .ref (8), .ref (9), .ref (16), iv 0, .ref (17), .ref (24), .ref (32), .ref (40), .ref (46), iv 0]), .inr (3, [iv 300, iv 12, iv 30, iv 1, iv 1, iv 1, iv 2, iv 1, iv 0, iv 0, iv 0, iv 0, iv 0, .ref (2), .ref (3), .ref (4)]), zI 7, zI 7, zI 40, aQ 8 52 2, zI 8, zQ 2, zI 2, .inr (2, [.ref (10), iv 0, iv 0, iv 0, iv 0, .ref (11), iv 0, iv 0, iv 0, iv 0, iv 0, .ref (15)]), zI 400, .inr (3, [iv 300, iv 12, iv 30, iv 1, iv 1, iv 1, iv 2, iv 1, iv 0, iv 0, iv 0, iv 0, iv 0, .ref (12), .ref (13), .ref (14)]), zI 7, zI 7, zI 40, zI 4, zI 120, .inr (1, [iv 1, .ref (18), .ref (19), .ref (20), .ref (21), .ref (22), .ref (23)]), zI 1, zI 1, zI 1, zI 1, zI 1, zI 49, .inr (0, [.ref (25), .ref (26), .ref (27), .ref (28), .ref (29), .ref (30), .ref (31)]), zI 26, zI 25, zI 25, zI 25, zI 2, zI 2, zI 2, .inr (0, [.ref (33), .ref (34), .ref (35), .ref (36), .ref (37), .ref (38), .ref (39)]), zI 26, zI 25, zI 25, zI 25, zI 2, zI 2, zI 2, .inr (4, [iv 0, .ref (41), .ref (42), .ref (43), .ref (44), .ref (45)]), zI 40, zI 40, zI 40, zI 2, zI 2, .inr (4, [iv 0, .ref (47), .ref (48), .ref (49), .ref (50), .ref (51)]), zI 40, zI 40, zI 40, zI 2, zI 2, .inr (3, [iv 300, iv 12, iv 30, iv 1, iv 1, iv 1, iv 2, iv 1, iv 0, iv 0, iv 0, iv 0, iv 0, .ref (53), .ref (54), .ref (55)]), zI 7, zI 7, zI 40, .inr (3, [iv 300, iv 12, iv 30, iv 1, iv 1, iv 1, iv 2, iv 1, iv 0, iv 0, iv 0, iv 0, iv 0, .ref (57), .ref (58), .ref (59)]), zI 7, zI 7, zI 40, .inr (3, [iv 300, iv 12, iv 30, iv 1, iv 1, iv 1, iv 2, iv 1, iv 0, iv 0, iv 0, iv 0, iv 0, .ref (61), .ref (62), .ref (63)]), zI 7, zI 7, zI 40] rfl ?_
  refine n_aastQ (i := 5) (r := 60) (N := 8) (b := 52) (m := 2) rfl hn rfl rfl rfl rfl ⟨by decide, by decide⟩ (by decide) rfl rfl dX5_init_164 ?_
  refine n_nrm [.inr (5, [.ref (1), .ref (5), .ref (6), iv 0, iv 0, .ref (7), .ref (8), .ref (9), .ref (16), iv 0, .ref (17), .ref (24), .ref (32), .ref (40), .ref (46), iv 0]), .inr (3, [iv 300, iv 12, iv 30, iv 1, iv 1, iv 1, iv 2, iv 1, iv 0, iv 0, iv 0, iv 0, iv 0, .ref (2), .ref (3), .ref (4)]), zI 7, zI 7, zI 40, aQ 8 52 3, zI 8, zQ 2, zI 2, .inr (2, [.ref (10), iv 0, iv 0, iv 0, iv 0, .ref (11), iv 0, iv 0, iv 0, iv 0, iv 0, .ref (15)]), zI 400, .inr (3, [iv 300, iv 12, iv 30, iv 1, iv 1, iv 1, iv 2, iv 1, iv 0, iv 0, iv 0, iv 0, iv 0, .ref (12), .ref (13), .ref (14)]), zI 7, zI 7, zI 40, zI 4, zI 120, .inr (1, [iv 1, .ref (18), .ref (19), .ref (20), .ref (21), .ref (22), .ref (23)]), zI 1, zI 1, zI 1, zI 1, zI 1, zI 49, .inr (0, [.ref (25), .ref (26), .ref (27), .ref (28), .ref (29), .ref (30), .ref (31)]), zI 26, zI 25, zI 25, zI 25, zI 2, zI 2, zI 2, .inr (0, [.ref (33), .ref (34), .ref (35), .ref (36), .ref (37), .ref (38), .ref (39)]), zI 26, zI 25, zI 25, zI 25, zI 2, zI 2, zI 2, .inr (4, [iv 0, .ref (41), .ref (42), .ref (43), .ref (44), .ref (45)]), zI 40, zI 40, zI 40, zI 2, zI 2, .inr (4, [iv 0, .ref (47), .ref (48), .ref (49), .ref (50), .ref (51)]), zI 40, zI 40, zI 40, zI 2, zI 2, .inr (3, [iv 300, iv 12, iv 30, iv 1, iv 1, iv 1, iv 2, iv 1, iv 0, iv 0, iv 0, iv 0, iv 0, .ref (53), .ref (54), .ref (55)]), zI 7, zI 7, zI 40, .inr (3, [iv 300, iv 12, iv 30, iv 1, iv 1, iv 1, iv 2, iv 1, iv 0, iv 0, iv 0, iv 0, iv 0, .ref (57), .ref (58), .ref (59)]), zI 7, zI 7, zI 40, .inr (3, [iv 300, iv 12, iv 30, iv 1, iv 1, iv 1, iv 2, iv 1, iv 0, iv 0, iv 0, iv 0, iv 0, .ref (61), .ref (62), .ref (63)]), zI 7, zI 7, zI 40] rfl ?_
  refine g_iinc1 dX5_init_165 rfl (by decide) ?_
  refine g_goto (tgt := 143) dX5_init_168 rfl ?_
  refine g_iload1 dX5_init_143 ?_
  refine g_aload0 dX5_init_144 ?_
  refine n_get (i := 0) hn rfl rfl fl_X5_16 rfl dX5_init_145 ?_
  refine n_alen (i := 5) hn rfl rfl (by decide) dX5_init_148 ?_
  refine g_icmp_ge ⟨by decide, by decide⟩ ⟨by decide, by decide⟩ (tgt := 171) dX5_init_149 rfl (fun h149 => absurd h149 (by decide)) (fun h149 => ?_)
  refine g_aload0 dX5_init_152 ?_
  refine n_get (i := 0) hn rfl rfl fl_X5_16 rfl dX5_init_153 ?_
  refine g_iload1 dX5_init_156 ?_
  refine n_new (q := 64) (fs := nw3) hn rfl rfl (by decide) (by decide) ⟨bL_of rfl, bS_of rfl⟩ (ci := 3) rfl (tt1 27 rfl rfl) ⟨(tt1 28 rfl rfl), (tt1 2 rfl rfl)⟩ nwD3 nwR3 dX5_init_157 (by decide) (by decide) ?_
  refine g_dup rfl dX5_init_160 ?_
  refine n_call (q := 64) (fun Q hQ => mkS_ok hQ (by decide) rfl (by decide)) hn rfl rfl oY_X3_init oN_X3_init lk_X5_9 rfl dX5_init_161 (by decide) (by decide) rfl ⟨bL_of rfl, bS_of rfl⟩ ?_
  refine n_nrm [.inr (5, [.ref (1), .ref (5), .ref (6), iv 0, iv 0, .ref (7), .ref (8), .ref (9), .ref (16), iv 0, .ref (17), .ref (24), .ref (32), .ref (40), .ref (46), iv 0]), .inr (3, [iv 300, iv 12, iv 30, iv 1, iv 1, iv 1, iv 2, iv 1, iv 0, iv 0, iv 0, iv 0, iv 0, .ref (2), .ref (3), .ref (4)]), zI 7, zI 7, zI 40, aQ 8 52 3, zI 8, zQ 2, zI 2, .inr (2, [.ref (10), iv 0, iv 0, iv 0, iv 0, .ref (11), iv 0, iv 0, iv 0, iv 0, iv 0, .ref (15)]), zI 400, .inr (3, [iv 300, iv 12, iv 30, iv 1, iv 1, iv 1, iv 2, iv 1, iv 0, iv 0, iv 0, iv 0, iv 0, .ref (12), .ref (13), .ref (14)]), zI 7, zI 7, zI 40, zI 4, zI 120, .inr (1, [iv 1, .ref (18), .ref (19), .ref (20), .ref (21), .ref (22), .ref (23)]), zI 1, zI 1, zI 1, zI 1, zI 1, zI 49, .inr (0, [.ref (25), .ref (26), .ref (27), .ref (28), .ref (29), .ref (30), .ref (31)]), zI 26, zI 25, zI 25, zI 25, zI 2, zI 2, zI 2, .inr (0, [.ref (33), .ref (34), .ref (35), .ref (36), .ref (37), .ref (38), .ref (39)]), zI 26, zI 25, zI 25, zI 25, zI 2, zI 2, zI 2, .inr (4, [iv 0, .ref (41), .ref (42), .ref (43), .ref (44), .ref (45)]), zI 40, zI 40, zI 40, zI 2, zI 2, .inr (4, [iv 0, .ref (47), .ref (48), .ref (49), .ref (50), .ref (51)]), zI 40, zI 40, zI 40, zI 2, zI 2, .inr (3, [iv 300, iv 12, iv 30, iv 1, iv 1, iv 1, iv 2, iv 1, iv 0, iv 0, iv 0, iv 0, iv 0, .ref (53), .ref (54), .ref (55)]), zI 7, zI 7, zI 40, .inr (3, [iv 300, iv 12, iv 30, iv 1, iv 1, iv 1, iv 2, iv 1, iv 0, iv 0, iv 0, iv 0, iv 0, .ref (57), .ref (58), .ref (59)]), zI 7, zI 7, zI 40, .inr (3, [iv 300, iv 12, iv 30, iv 1, iv 1, iv 1, iv 2, iv 1, iv 0, iv 0, iv 0, iv 0, iv 0, .ref (61), .ref (62), .ref (63)]), zI 7, zI 7, zI 40, .inr (3, [iv 300, iv 12, iv 30, iv 1, iv 1, iv 1, iv 2, iv 1, iv 0, iv 0, iv 0, iv 0, iv 0, .ref (65), .ref (66), .ref (67)]), zI 7, zI 7, zI 40] rfl ?_
  refine n_aastQ (i := 5) (r := 64) (N := 8) (b := 52) (m := 3) rfl hn rfl rfl rfl rfl ⟨by decide, by decide⟩ (by decide) rfl rfl dX5_init_164 ?_
  refine n_nrm [.inr (5, [.ref (1), .ref (5), .ref (6), iv 0, iv 0, .ref (7), .ref (8), .ref (9), .ref (16), iv 0, .ref (17), .ref (24), .ref (32), .ref (40), .ref (46), iv 0]), .inr (3, [iv 300, iv 12, iv 30, iv 1, iv 1, iv 1, iv 2, iv 1, iv 0, iv 0, iv 0, iv 0, iv 0, .ref (2), .ref (3), .ref (4)]), zI 7, zI 7, zI 40, aQ 8 52 4, zI 8, zQ 2, zI 2, .inr (2, [.ref (10), iv 0, iv 0, iv 0, iv 0, .ref (11), iv 0, iv 0, iv 0, iv 0, iv 0, .ref (15)]), zI 400, .inr (3, [iv 300, iv 12, iv 30, iv 1, iv 1, iv 1, iv 2, iv 1, iv 0, iv 0, iv 0, iv 0, iv 0, .ref (12), .ref (13), .ref (14)]), zI 7, zI 7, zI 40, zI 4, zI 120, .inr (1, [iv 1, .ref (18), .ref (19), .ref (20), .ref (21), .ref (22), .ref (23)]), zI 1, zI 1, zI 1, zI 1, zI 1, zI 49, .inr (0, [.ref (25), .ref (26), .ref (27), .ref (28), .ref (29), .ref (30), .ref (31)]), zI 26, zI 25, zI 25, zI 25, zI 2, zI 2, zI 2, .inr (0, [.ref (33), .ref (34), .ref (35), .ref (36), .ref (37), .ref (38), .ref (39)]), zI 26, zI 25, zI 25, zI 25, zI 2, zI 2, zI 2, .inr (4, [iv 0, .ref (41), .ref (42), .ref (43), .ref (44), .ref (45)]), zI 40, zI 40, zI 40, zI 2, zI 2, .inr (4, [iv 0, .ref (47), .ref (48), .ref (49), .ref (50), .ref (51)]), zI 40, zI 40, zI 40, zI 2, zI 2, .inr (3, [iv 300, iv 12, iv 30, iv 1, iv 1, iv 1, iv 2, iv 1, iv 0, iv 0, iv 0, iv 0, iv 0, .ref (53), .ref (54), .ref (55)]), zI 7, zI 7, zI 40, .inr (3, [iv 300, iv 12, iv 30, iv 1, iv 1, iv 1, iv 2, iv 1, iv 0, iv 0, iv 0, iv 0, iv 0, .ref (57), .ref (58), .ref (59)]), zI 7, zI 7, zI 40, .inr (3, [iv 300, iv 12, iv 30, iv 1, iv 1, iv 1, iv 2, iv 1, iv 0, iv 0, iv 0, iv 0, iv 0, .ref (61), .ref (62), .ref (63)]), zI 7, zI 7, zI 40, .inr (3, [iv 300, iv 12, iv 30, iv 1, iv 1, iv 1, iv 2, iv 1, iv 0, iv 0, iv 0, iv 0, iv 0, .ref (65), .ref (66), .ref (67)]), zI 7, zI 7, zI 40] rfl ?_
  refine g_iinc1 dX5_init_165 rfl (by decide) ?_
  refine g_goto (tgt := 143) dX5_init_168 rfl ?_
  refine g_iload1 dX5_init_143 ?_
  refine g_aload0 dX5_init_144 ?_
  refine n_get (i := 0) hn rfl rfl fl_X5_16 rfl dX5_init_145 ?_
  refine n_alen (i := 5) hn rfl rfl (by decide) dX5_init_148 ?_
  refine g_icmp_ge ⟨by decide, by decide⟩ ⟨by decide, by decide⟩ (tgt := 171) dX5_init_149 rfl (fun h149 => absurd h149 (by decide)) (fun h149 => ?_)
  refine g_aload0 dX5_init_152 ?_
  refine n_get (i := 0) hn rfl rfl fl_X5_16 rfl dX5_init_153 ?_
  refine g_iload1 dX5_init_156 ?_
  refine n_new (q := 68) (fs := nw3) hn rfl rfl (by decide) (by decide) ⟨bL_of rfl, bS_of rfl⟩ (ci := 3) rfl (tt1 27 rfl rfl) ⟨(tt1 28 rfl rfl), (tt1 2 rfl rfl)⟩ nwD3 nwR3 dX5_init_157 (by decide) (by decide) ?_
  refine g_dup rfl dX5_init_160 ?_
  refine n_call (q := 68) (fun Q hQ => mkS_ok hQ (by decide) rfl (by decide)) hn rfl rfl oY_X3_init oN_X3_init lk_X5_9 rfl dX5_init_161 (by decide) (by decide) rfl ⟨bL_of rfl, bS_of rfl⟩ ?_
  refine n_nrm [.inr (5, [.ref (1), .ref (5), .ref (6), iv 0, iv 0, .ref (7), .ref (8), .ref (9), .ref (16), iv 0, .ref (17), .ref (24), .ref (32), .ref (40), .ref (46), iv 0]), .inr (3, [iv 300, iv 12, iv 30, iv 1, iv 1, iv 1, iv 2, iv 1, iv 0, iv 0, iv 0, iv 0, iv 0, .ref (2), .ref (3), .ref (4)]), zI 7, zI 7, zI 40, aQ 8 52 4, zI 8, zQ 2, zI 2, .inr (2, [.ref (10), iv 0, iv 0, iv 0, iv 0, .ref (11), iv 0, iv 0, iv 0, iv 0, iv 0, .ref (15)]), zI 400, .inr (3, [iv 300, iv 12, iv 30, iv 1, iv 1, iv 1, iv 2, iv 1, iv 0, iv 0, iv 0, iv 0, iv 0, .ref (12), .ref (13), .ref (14)]), zI 7, zI 7, zI 40, zI 4, zI 120, .inr (1, [iv 1, .ref (18), .ref (19), .ref (20), .ref (21), .ref (22), .ref (23)]), zI 1, zI 1, zI 1, zI 1, zI 1, zI 49, .inr (0, [.ref (25), .ref (26), .ref (27), .ref (28), .ref (29), .ref (30), .ref (31)]), zI 26, zI 25, zI 25, zI 25, zI 2, zI 2, zI 2, .inr (0, [.ref (33), .ref (34), .ref (35), .ref (36), .ref (37), .ref (38), .ref (39)]), zI 26, zI 25, zI 25, zI 25, zI 2, zI 2, zI 2, .inr (4, [iv 0, .ref (41), .ref (42), .ref (43), .ref (44), .ref (45)]), zI 40, zI 40, zI 40, zI 2, zI 2, .inr (4, [iv 0, .ref (47), .ref (48), .ref (49), .ref (50), .ref (51)]), zI 40, zI 40, zI 40, zI 2, zI 2, .inr (3, [iv 300, iv 12, iv 30, iv 1, iv 1, iv 1, iv 2, iv 1, iv 0, iv 0, iv 0, iv 0, iv 0, .ref (53), .ref (54), .ref (55)]), zI 7, zI 7, zI 40, .inr (3, [iv 300, iv 12, iv 30, iv 1, iv 1, iv 1, iv 2, iv 1, iv 0, iv 0, iv 0, iv 0, iv 0, .ref (57), .ref (58), .ref (59)]), zI 7, zI 7, zI 40, .inr (3, [iv 300, iv 12, iv 30, iv 1, iv 1, iv 1, iv 2, iv 1, iv 0, iv 0, iv 0, iv 0, iv 0, .ref (61), .ref (62), .ref (63)]), zI 7, zI 7, zI 40, .inr (3, [iv 300, iv 12, iv 30, iv 1, iv 1, iv 1, iv 2, iv 1, iv 0, iv 0, iv 0, iv 0, iv 0, .ref (65), .ref (66), .ref (67)]), zI 7, zI 7, zI 40, .inr (3, [iv 300, iv 12, iv 30, iv 1, iv 1, iv 1, iv 2, iv 1, iv 0, iv 0, iv 0, iv 0, iv 0, .ref (69), .ref (70), .ref (71)]), zI 7, zI 7, zI 40] rfl ?_
  refine n_aastQ (i := 5) (r := 68) (N := 8) (b := 52) (m := 4) rfl hn rfl rfl rfl rfl ⟨by decide, by decide⟩ (by decide) rfl rfl dX5_init_164 ?_
  refine n_nrm [.inr (5, [.ref (1), .ref (5), .ref (6), iv 0, iv 0, .ref (7), .ref (8), .ref (9), .ref (16), iv 0, .ref (17), .ref (24), .ref (32), .ref (40), .ref (46), iv 0]), .inr (3, [iv 300, iv 12, iv 30, iv 1, iv 1, iv 1, iv 2, iv 1, iv 0, iv 0, iv 0, iv 0, iv 0, .ref (2), .ref (3), .ref (4)]), zI 7, zI 7, zI 40, aQ 8 52 5, zI 8, zQ 2, zI 2, .inr (2, [.ref (10), iv 0, iv 0, iv 0, iv 0, .ref (11), iv 0, iv 0, iv 0, iv 0, iv 0, .ref (15)]), zI 400, .inr (3, [iv 300, iv 12, iv 30, iv 1, iv 1, iv 1, iv 2, iv 1, iv 0, iv 0, iv 0, iv 0, iv 0, .ref (12), .ref (13), .ref (14)]), zI 7, zI 7, zI 40, zI 4, zI 120, .inr (1, [iv 1, .ref (18), .ref (19), .ref (20), .ref (21), .ref (22), .ref (23)]), zI 1, zI 1, zI 1, zI 1, zI 1, zI 49, .inr (0, [.ref (25), .ref (26), .ref (27), .ref (28), .ref (29), .ref (30), .ref (31)]), zI 26, zI 25, zI 25, zI 25, zI 2, zI 2, zI 2, .inr (0, [.ref (33), .ref (34), .ref (35), .ref (36), .ref (37), .ref (38), .ref (39)]), zI 26, zI 25, zI 25, zI 25, zI 2, zI 2, zI 2, .inr (4, [iv 0, .ref (41), .ref (42), .ref (43), .ref (44), .ref (45)]), zI 40, zI 40, zI 40, zI 2, zI 2, .inr (4, [iv 0, .ref (47), .ref (48), .ref (49), .ref (50), .ref (51)]), zI 40, zI 40, zI 40, zI 2, zI 2, .inr (3, [iv 300, iv 12, iv 30, iv 1, iv 1, iv 1, iv 2, iv 1, iv 0, iv 0, iv 0, iv 0, iv 0, .ref (53), .ref (54), .ref (55)]), zI 7, zI 7, zI 40, .inr (3, [iv 300, iv 12, iv 30, iv 1, iv 1, iv 1, iv 2, iv 1, iv 0, iv 0, iv 0, iv 0, iv 0, .ref (57), .ref (58), .ref (59)]), zI 7, zI 7, zI 40, .inr (3, [iv 300, iv 12, iv 30, iv 1, iv 1, iv 1, iv 2, iv 1, iv 0, iv 0, iv 0, iv 0, iv 0, .ref (61), .ref (62), .ref (63)]), zI 7, zI 7, zI 40, .inr (3, [iv 300, iv 12, iv 30, iv 1, iv 1, iv 1, iv 2, iv 1, iv 0, iv 0, iv 0, iv 0, iv 0, .ref (65), .ref (66), .ref (67)]), zI 7, zI 7, zI 40, .inr (3, [iv 300, iv 12, iv 30, iv 1, iv 1, iv 1, iv 2, iv 1, iv 0, iv 0, iv 0, iv 0, iv 0, .ref (69), .ref (70), .ref (71)]), zI 7, zI 7, zI 40] rfl ?_
  refine g_iinc1 dX5_init_165 rfl (by decide) ?_
  refine g_goto (tgt := 143) dX5_init_168 rfl ?_
  refine g_iload1 dX5_init_143 ?_
  refine g_aload0 dX5_init_144 ?_
  refine n_get (i := 0) hn rfl rfl fl_X5_16 rfl dX5_init_145 ?_
  refine n_alen (i := 5) hn rfl rfl (by decide) dX5_init_148 ?_
  refine g_icmp_ge ⟨by decide, by decide⟩ ⟨by decide, by decide⟩ (tgt := 171) dX5_init_149 rfl (fun h149 => absurd h149 (by decide)) (fun h149 => ?_)
  refine g_aload0 dX5_init_152 ?_
  refine n_get (i := 0) hn rfl rfl fl_X5_16 rfl dX5_init_153 ?_
  refine g_iload1 dX5_init_156 ?_
  refine n_new (q := 72) (fs := nw3) hn rfl rfl (by decide) (by decide) ⟨bL_of rfl, bS_of rfl⟩ (ci := 3) rfl (tt1 27 rfl rfl) ⟨(tt1 28 rfl rfl), (tt1 2 rfl rfl)⟩ nwD3 nwR3 dX5_init_157 (by decide) (by decide) ?_
  refine g_dup rfl dX5_init_160 ?_
  refine n_call (q := 72) (fun Q hQ => mkS_ok hQ (by decide) rfl (by decide)) hn rfl rfl oY_X3_init oN_X3_init lk_X5_9 rfl dX5_init_161 (by decide) (by decide) rfl ⟨bL_of rfl, bS_of rfl⟩ ?_
  refine n_nrm [.inr (5, [.ref (1), .ref (5), .ref (6), iv 0, iv 0, .ref (7), .ref (8), .ref (9), .ref (16), iv 0, .ref (17), .ref (24), .ref (32), .ref (40), .ref (46), iv 0]), .inr (3, [iv 300, iv 12, iv 30, iv 1, iv 1, iv 1, iv 2, iv 1, iv 0, iv 0, iv 0, iv 0, iv 0, .ref (2), .ref (3), .ref (4)]), zI 7, zI 7, zI 40, aQ 8 52 5, zI 8, zQ 2, zI 2, .inr (2, [.ref (10), iv 0, iv 0, iv 0, iv 0, .ref (11), iv 0, iv 0, iv 0, iv 0, iv 0, .ref (15)]), zI 400, .inr (3, [iv 300, iv 12, iv 30, iv 1, iv 1, iv 1, iv 2, iv 1, iv 0, iv 0, iv 0, iv 0, iv 0, .ref (12), .ref (13), .ref (14)]), zI 7, zI 7, zI 40, zI 4, zI 120, .inr (1, [iv 1, .ref (18), .ref (19), .ref (20), .ref (21), .ref (22), .ref (23)]), zI 1, zI 1, zI 1, zI 1, zI 1, zI 49, .inr (0, [.ref (25), .ref (26), .ref (27), .ref (28), .ref (29), .ref (30), .ref (31)]), zI 26, zI 25, zI 25, zI 25, zI 2, zI 2, zI 2, .inr (0, [.ref (33), .ref (34), .ref (35), .ref (36), .ref (37), .ref (38), .ref (39)]), zI 26, zI 25, zI 25, zI 25, zI 2, zI 2, zI 2, .inr (4, [iv 0, .ref (41), .ref (42), .ref (43), .ref (44), .ref (45)]), zI 40, zI 40, zI 40, zI 2, zI 2, .inr (4, [iv 0, .ref (47), .ref (48), .ref (49), .ref (50), .ref (51)]), zI 40, zI 40, zI 40, zI 2, zI 2, .inr (3, [iv 300, iv 12, iv 30, iv 1, iv 1, iv 1, iv 2, iv 1, iv 0, iv 0, iv 0, iv 0, iv 0, .ref (53), .ref (54), .ref (55)]), zI 7, zI 7, zI 40, .inr (3, [iv 300, iv 12, iv 30, iv 1, iv 1, iv 1, iv 2, iv 1, iv 0, iv 0, iv 0, iv 0, iv 0, .ref (57), .ref (58), .ref (59)]), zI 7, zI 7, zI 40, .inr (3, [iv 300, iv 12, iv 30, iv 1, iv 1, iv 1, iv 2, iv 1, iv 0, iv 0, iv 0, iv 0, iv 0, .ref (61), .ref (62), .ref (63)]), zI 7, zI 7, zI 40, .inr (3, [iv 300, iv 12, iv 30, iv 1, iv 1, iv 1, iv 2, iv 1, iv 0, iv 0, iv 0, iv 0, iv 0, .ref (65), .ref (66), .ref (67)]), zI 7, zI 7, zI 40, .inr (3, [iv 300, iv 12, iv 30, iv 1, iv 1, iv 1, iv 2, iv 1, iv 0, iv 0, iv 0, iv 0, iv 0, .ref (69), .ref (70), .ref (71)]), zI 7, zI 7, zI 40, .inr (3, [iv 300, iv 12, iv 30, iv 1, iv 1, iv 1, iv 2, iv 1, iv 0, iv 0, iv 0, iv 0, iv 0, .ref (73), .ref (74), .ref (75)]), zI 7, zI 7, zI 40] rfl ?_
  refine n_aastQ (i := 5) (r := 72) (N := 8) (b := 52) (m := 5) rfl hn rfl rfl rfl rfl ⟨by decide, by decide⟩ (by decide) rfl rfl dX5_init_164 ?_
  refine n_nrm [.inr (5, [.ref (1), .ref (5), .ref (6), iv 0, iv 0, .ref (7), .ref (8), .ref (9), .ref (16), iv 0, .ref (17), .ref (24), .ref (32), .ref (40), .ref (46), iv 0]), .inr (3, [iv 300, iv 12, iv 30, iv 1, iv 1, iv 1, iv 2, iv 1, iv 0, iv 0, iv 0, iv 0, iv 0, .ref (2), .ref (3), .ref (4)]), zI 7, zI 7, zI 40, aQ 8 52 6, zI 8, zQ 2, zI 2, .inr (2, [.ref (10), iv 0, iv 0, iv 0, iv 0, .ref (11), iv 0, iv 0, iv 0, iv 0, iv 0, .ref (15)]), zI 400, .inr (3, [iv 300, iv 12, iv 30, iv 1, iv 1, iv 1, iv 2, iv 1, iv 0, iv 0, iv 0, iv 0, iv 0, .ref (12), .ref (13), .ref (14)]), zI 7, zI 7, zI 40, zI 4, zI 120, .inr (1, [iv 1, .ref (18), .ref (19), .ref (20), .ref (21), .ref (22), .ref (23)]), zI 1, zI 1, zI 1, zI 1, zI 1, zI 49, .inr (0, [.ref (25), .ref (26), .ref (27), .ref (28), .ref (29), .ref (30), .ref (31)]), zI 26, zI 25, zI 25, zI 25, zI 2, zI 2, zI 2, .inr (0, [.ref (33), .ref (34), .ref (35), .ref (36), .ref (37), .ref (38), .ref (39)]), zI 26, zI 25, zI 25, zI 25, zI 2, zI 2, zI 2, .inr (4, [iv 0, .ref (41), .ref (42), .ref (43), .ref (44), .ref (45)]), zI 40, zI 40, zI 40, zI 2, zI 2, .inr (4, [iv 0, .ref (47), .ref (48), .ref (49), .ref (50), .ref (51)]), zI 40, zI 40, zI 40, zI 2, zI 2, .inr (3, [iv 300, iv 12, iv 30, iv 1, iv 1, iv 1, iv 2, iv 1, iv 0, iv 0, iv 0, iv 0, iv 0, .ref (53), .ref (54), .ref (55)]), zI 7, zI 7, zI 40, .inr (3, [iv 300, iv 12, iv 30, iv 1, iv 1, iv 1, iv 2, iv 1, iv 0, iv 0, iv 0, iv 0, iv 0, .ref (57), .ref (58), .ref (59)]), zI 7, zI 7, zI 40, .inr (3, [iv 300, iv 12, iv 30, iv 1, iv 1, iv 1, iv 2, iv 1, iv 0, iv 0, iv 0, iv 0, iv 0, .ref (61), .ref (62), .ref (63)]), zI 7, zI 7, zI 40, .inr (3, [iv 300, iv 12, iv 30, iv 1, iv 1, iv 1, iv 2, iv 1, iv 0, iv 0, iv 0, iv 0, iv 0, .ref (65), .ref (66), .ref (67)]), zI 7, zI 7, zI 40, .inr (3, [iv 300, iv 12, iv 30, iv 1, iv 1, iv 1, iv 2, iv 1, iv 0, iv 0, iv 0, iv 0, iv 0, .ref (69), .ref (70), .ref (71)]), zI 7, zI 7, zI 40, .inr (3, [iv 300, iv 12, iv 30, iv 1, iv 1, iv 1, iv 2, iv 1, iv 0, iv 0, iv 0, iv 0, iv 0, .ref (73), .ref (74), .ref (75)]), zI 7, zI 7, zI 40] rfl ?_
  refine g_iinc1 dX5_init_165 rfl (by decide) ?_
  refine g_goto (tgt := 143) dX5_init_168 rfl ?_
  refine g_iload1 dX5_init_143 ?_
  refine g_aload0 dX5_init_144 ?_
  refine n_get (i := 0) hn rfl rfl fl_X5_16 rfl dX5_init_145 ?_
  refine n_alen (i := 5) hn rfl rfl (by decide) dX5_init_148 ?_
  refine g_icmp_ge ⟨by decide, by decide⟩ ⟨by decide, by decide⟩ (tgt := 171) dX5_init_149 rfl (fun h149 => absurd h149 (by decide)) (fun h149 => ?_)
  refine g_aload0 dX5_init_152 ?_
  refine n_get (i := 0) hn rfl rfl fl_X5_16 rfl dX5_init_153 ?_
  refine g_iload1 dX5_init_156 ?_
  refine n_new (q := 76) (fs := nw3) hn rfl rfl (by decide) (by decide) ⟨bL_of rfl, bS_of rfl⟩ (ci := 3) rfl (tt1 27 rfl rfl) ⟨(tt1 28 rfl rfl), (tt1 2 rfl rfl)⟩ nwD3 nwR3 dX5_init_157 (by decide) (by decide) ?_
  refine g_dup rfl dX5_init_160 ?_
  refine n_call (q := 76) (fun Q hQ => mkS_ok hQ (by decide) rfl (by decide)) hn rfl rfl oY_X3_init oN_X3_init lk_X5_9 rfl dX5_init_161 (by decide) (by decide) rfl ⟨bL_of rfl, bS_of rfl⟩ ?_
  refine n_nrm [.inr (5, [.ref (1), .ref (5), .ref (6), iv 0, iv 0, .ref (7), .ref (8), .ref (9), .ref (16), iv 0, .ref (17), .ref (24), .ref (32), .ref (40), .ref (46), iv 0]), .inr (3, [iv 300, iv 12, iv 30, iv 1, iv 1, iv 1, iv 2, iv 1, iv 0, iv 0, iv 0, iv 0, iv 0, .ref (2), .ref (3), .ref (4)]), zI 7, zI 7, zI 40, aQ 8 52 6, zI 8, zQ 2, zI 2, .inr (2, [.ref (10), iv 0, iv 0, iv 0, iv 0, .ref (11), iv 0, iv 0, iv 0, iv 0, iv 0, .ref (15)]), zI 400, .inr (3, [iv 300, iv 12, iv 30, iv 1, iv 1, iv 1, iv 2, iv 1, iv 0, iv 0, iv 0, iv 0, iv 0, .ref (12), .ref (13), .ref (14)]), zI 7, zI 7, zI 40, zI 4, zI 120, .inr (1, [iv 1, .ref (18), .ref (19), .ref (20), .ref (21), .ref (22), .ref (23)]), zI 1, zI 1, zI 1, zI 1, zI 1, zI 49, .inr (0, [.ref (25), .ref (26), .ref (27), .ref (28), .ref (29), .ref (30), .ref (31)]), zI 26, zI 25, zI 25, zI 25, zI 2, zI 2, zI 2, .inr (0, [.ref (33), .ref (34), .ref (35), .ref (36), .ref (37), .ref (38), .ref (39)]), zI 26, zI 25, zI 25, zI 25, zI 2, zI 2, zI 2, .inr (4, [iv 0, .ref (41), .ref (42), .ref (43), .ref (44), .ref (45)]), zI 40, zI 40, zI 40, zI 2, zI 2, .inr (4, [iv 0, .ref (47), .ref (48), .ref (49), .ref (50), .ref (51)]), zI 40, zI 40, zI 40, zI 2, zI 2, .inr (3, [iv 300, iv 12, iv 30, iv 1, iv 1, iv 1, iv 2, iv 1, iv 0, iv 0, iv 0, iv 0, iv 0, .ref (53), .ref (54), .ref (55)]), zI 7, zI 7, zI 40, .inr (3, [iv 300, iv 12, iv 30, iv 1, iv 1, iv 1, iv 2, iv 1, iv 0, iv 0, iv 0, iv 0, iv 0, .ref (57), .ref (58), .ref (59)]), zI 7, zI 7, zI 40, .inr (3, [iv 300, iv 12, iv 30, iv 1, iv 1, iv 1, iv 2, iv 1, iv 0, iv 0, iv 0, iv 0, iv 0, .ref (61), .ref (62), .ref (63)]), zI 7, zI 7, zI 40, .inr (3, [iv 300, iv 12, iv 30, iv 1, iv 1, iv 1, iv 2, iv 1, iv 0, iv 0, iv 0, iv 0, iv 0, .ref (65), .ref (66), .ref (67)]), zI 7, zI 7, zI 40, .inr (3, [iv 300, iv 12, iv 30, iv 1, iv 1, iv 1, iv 2, iv 1, iv 0, iv 0, iv 0, iv 0, iv 0, .ref (69), .ref (70), .ref (71)]), zI 7, zI 7, zI 40, .inr (3, [iv 300, iv 12, iv 30, iv 1, iv 1, iv 1, iv 2, iv 1, iv 0, iv 0, iv 0, iv 0, iv 0, .ref (73), .ref (74), .ref (75)]), zI 7, zI 7, zI 40, .inr (3, [iv 300, iv 12, iv 30, iv 1, iv 1, iv 1, iv 2, iv 1, iv 0, iv 0, iv 0, iv 0, iv 0, .ref (77), .ref (78), .ref (79)]), zI 7, zI 7, zI 40] rfl ?_
  refine n_aastQ (i := 5) (r := 76) (N := 8) (b := 52) (m := 6) rfl hn rfl rfl rfl rfl ⟨by decide, by decide⟩ (by decide) rfl rfl dX5_init_164 ?_
  refine n_nrm [.inr (5, [.ref (1), .ref (5), .ref (6), iv 0, iv 0, .ref (7), .ref (8), .ref (9), .ref (16), iv 0, .ref (17), .ref (24), .ref (32), .ref (40), .ref (46), iv 0]), .inr (3, [iv 300, iv 12, iv 30, iv 1, iv 1, iv 1, iv 2, iv 1, iv 0, iv 0, iv 0, iv 0, iv 0, .ref (2), .ref (3), .ref (4)]), zI 7, zI 7, zI 40, aQ 8 52 7, zI 8, zQ 2, zI 2, .inr (2, [.ref (10), iv 0, iv 0, iv 0, iv 0, .ref (11), iv 0, iv 0, iv 0, iv 0, iv 0, .ref (15)]), zI 400, .inr (3, [iv 300, iv 12, iv 30, iv 1, iv 1, iv 1, iv 2, iv 1, iv 0, iv 0, iv 0, iv 0, iv 0, .ref (12), .ref (13), .ref (14)]), zI 7, zI 7, zI 40, zI 4, zI 120, .inr (1, [iv 1, .ref (18), .ref (19), .ref (20), .ref (21), .ref (22), .ref (23)]), zI 1, zI 1, zI 1, zI 1, zI 1, zI 49, .inr (0, [.ref (25), .ref (26), .ref (27), .ref (28), .ref (29), .ref (30), .ref (31)]), zI 26, zI 25, zI 25, zI 25, zI 2, zI 2, zI 2, .inr (0, [.ref (33), .ref (34), .ref (35), .ref (36), .ref (37), .ref (38), .ref (39)]), zI 26, zI 25, zI 25, zI 25, zI 2, zI 2, zI 2, .inr (4, [iv 0, .ref (41), .ref (42), .ref (43), .ref (44), .ref (45)]), zI 40, zI 40, zI 40, zI 2, zI 2, .inr (4, [iv 0, .ref (47), .ref (48), .ref (49), .ref (50), .ref (51)]), zI 40, zI 40, zI 40, zI 2, zI 2, .inr (3, [iv 300, iv 12, iv 30, iv 1, iv 1, iv 1, iv 2, iv 1, iv 0, iv 0, iv 0, iv 0, iv 0, .ref (53), .ref (54), .ref (55)]), zI 7, zI 7, zI 40, .inr (3, [iv 300, iv 12, iv 30, iv 1, iv 1, iv 1, iv 2, iv 1, iv 0, iv 0, iv 0, iv 0, iv 0, .ref (57), .ref (58), .ref (59)]), zI 7, zI 7, zI 40, .inr (3, [iv 300, iv 12, iv 30, iv 1, iv 1, iv 1, iv 2, iv 1, iv 0, iv 0, iv 0, iv 0, iv 0, .ref (61), .ref (62), .ref (63)]), zI 7, zI 7, zI 40, .inr (3, [iv 300, iv 12, iv 30, iv 1, iv 1, iv 1, iv 2, iv 1, iv 0, iv 0, iv 0, iv 0, iv 0, .ref (65), .ref (66), .ref (67)]), zI 7, zI 7, zI 40, .inr (3, [iv 300, iv 12, iv 30, iv 1, iv 1, iv 1, iv 2, iv 1, iv 0, iv 0, iv 0, iv 0, iv 0, .ref (69), .ref (70), .ref (71)]), zI 7, zI 7, zI 40, .inr (3, [iv 300, iv 12, iv 30, iv 1, iv 1, iv 1, iv 2, iv 1, iv 0, iv 0, iv 0, iv 0, iv 0, .ref (73), .ref (74), .ref (75)]), zI 7, zI 7, zI 40, .inr (3, [iv 300, iv 12, iv 30, iv 1, iv 1, iv 1, iv 2, iv 1, iv 0, iv 0, iv 0, iv 0, iv 0, .ref (77), .ref (78), .ref (79)]), zI 7, zI 7, zI 40] rfl ?_
  refine g_iinc1 dX5_init_165 rfl (by decide) ?_
  refine g_goto (tgt := 143) dX5_init_168 rfl ?_
  refine g_iload1 dX5_init_143 ?_
  refine g_aload0 dX5_init_144 ?_
  refine n_get (i := 0) hn rfl rfl fl_X5_16 rfl dX5_init_145 ?_
  refine n_alen (i := 5) hn rfl rfl (by decide) dX5_init_148 ?_
  refine g_icmp_ge ⟨by decide, by decide⟩ ⟨by decide, by decide⟩ (tgt := 171) dX5_init_149 rfl (fun h149 => absurd h149 (by decide)) (fun h149 => ?_)
  refine g_aload0 dX5_init_152 ?_
  refine n_get (i := 0) hn rfl rfl fl_X5_16 rfl dX5_init_153 ?_
  refine g_iload1 dX5_init_156 ?_
  refine n_new (q := 80) (fs := nw3) hn rfl rfl (by decide) (by decide) ⟨bL_of rfl, bS_of rfl⟩ (ci := 3) rfl (tt1 27 rfl rfl) ⟨(tt1 28 rfl rfl), (tt1 2 rfl rfl)⟩ nwD3 nwR3 dX5_init_157 (by decide) (by decide) ?_
  refine g_dup rfl dX5_init_160 ?_
  refine n_call (q := 80) (fun Q hQ => mkS_ok hQ (by decide) rfl (by decide)) hn rfl rfl oY_X3_init oN_X3_init lk_X5_9 rfl dX5_init_161 (by decide) (by decide) rfl ⟨bL_of rfl, bS_of rfl⟩ ?_
  refine n_nrm [.inr (5, [.ref (1), .ref (5), .ref (6), iv 0, iv 0, .ref (7), .ref (8), .ref (9), .ref (16), iv 0, .ref (17), .ref (24), .ref (32), .ref (40), .ref (46), iv 0]), .inr (3, [iv 300, iv 12, iv 30, iv 1, iv 1, iv 1, iv 2, iv 1, iv 0, iv 0, iv 0, iv 0, iv 0, .ref (2), .ref (3), .ref (4)]), zI 7, zI 7, zI 40, aQ 8 52 7, zI 8, zQ 2, zI 2, .inr (2, [.ref (10), iv 0, iv 0, iv 0, iv 0, .ref (11), iv 0, iv 0, iv 0, iv 0, iv 0, .ref (15)]), zI 400, .inr (3, [iv 300, iv 12, iv 30, iv 1, iv 1, iv 1, iv 2, iv 1, iv 0, iv 0, iv 0, iv 0, iv 0, .ref (12), .ref (13), .ref (14)]), zI 7, zI 7, zI 40, zI 4, zI 120, .inr (1, [iv 1, .ref (18), .ref (19), .ref (20), .ref (21), .ref (22), .ref (23)]), zI 1, zI 1, zI 1, zI 1, zI 1, zI 49, .inr (0, [.ref (25), .ref (26), .ref (27), .ref (28), .ref (29), .ref (30), .ref (31)]), zI 26, zI 25, zI 25, zI 25, zI 2, zI 2, zI 2, .inr (0, [.ref (33), .ref (34), .ref (35), .ref (36), .ref (37), .ref (38), .ref (39)]), zI 26, zI 25, zI 25, zI 25, zI 2, zI 2, zI 2, .inr (4, [iv 0, .ref (41), .ref (42), .ref (43), .ref (44), .ref (45)]), zI 40, zI 40, zI 40, zI 2, zI 2, .inr (4, [iv 0, .ref (47), .ref (48), .ref (49), .ref (50), .ref (51)]), zI 40, zI 40, zI 40, zI 2, zI 2, .inr (3, [iv 300, iv 12, iv 30, iv 1, iv 1, iv 1, iv 2, iv 1, iv 0, iv 0, iv 0, iv 0, iv 0, .ref (53), .ref (54), .ref (55)]), zI 7, zI 7, zI 40, .inr (3, [iv 300, iv 12, iv 30, iv 1, iv 1, iv 1, iv 2, iv 1, iv 0, iv 0, iv 0, iv 0, iv 0, .ref (57), .ref (58), .ref (59)]), zI 7, zI 7, zI 40, .inr (3, [iv 300, iv 12, iv 30, iv 1, iv 1, iv 1, iv 2, iv 1, iv 0, iv 0, iv 0, iv 0, iv 0, .ref (61), .ref (62), .ref (63)]), zI 7, zI 7, zI 40, .inr (3, [iv 300, iv 12, iv 30, iv 1, iv 1, iv 1, iv 2, iv 1, iv 0, iv 0, iv 0, iv 0, iv 0, .ref (65), .ref (66), .ref (67)]), zI 7, zI 7, zI 40, .inr (3, [iv 300, iv 12, iv 30, iv 1, iv 1, iv 1, iv 2, iv 1, iv 0, iv 0, iv 0, iv 0, iv 0, .ref (69), .ref (70), .ref (71)]), zI 7, zI 7, zI 40, .inr (3, [iv 300, iv 12, iv 30, iv 1, iv 1, iv 1, iv 2, iv 1, iv 0, iv 0, iv 0, iv 0, iv 0, .ref (73), .ref (74), .ref (75)]), zI 7, zI 7, zI 40, .inr (3, [iv 300, iv 12, iv 30, iv 1, iv 1, iv 1, iv 2, iv 1, iv 0, iv 0, iv 0, iv 0, iv 0, .ref (77), .ref (78), .ref (79)]), zI 7, zI 7, zI 40, .inr (3, [iv 300, iv 12, iv 30, iv 1, iv 1, iv 1, iv 2, iv 1, iv 0, iv 0, iv 0, iv 0, iv 0, .ref (81), .ref (82), .ref (83)]), zI 7, zI 7, zI 40] rfl ?_
  refine n_aastQ (i := 5) (r := 80) (N := 8) (b := 52) (m := 7) rfl hn rfl rfl rfl rfl ⟨by decide, by decide⟩ (by decide) rfl rfl dX5_init_164 ?_
  refine n_nrm [.inr (5, [.ref (1), .ref (5), .ref (6), iv 0, iv 0, .ref (7), .ref (8), .ref (9), .ref (16), iv 0, .ref (17), .ref (24), .ref (32), .ref (40), .ref (46), iv 0]), .inr (3, [iv 300, iv 12, iv 30, iv 1, iv 1, iv 1, iv 2, iv 1, iv 0, iv 0, iv 0, iv 0, iv 0, .ref (2), .ref (3), .ref (4)]), zI 7, zI 7, zI 40, aQ 8 52 8, zI 8, zQ 2, zI 2, .inr (2, [.ref (10), iv 0, iv 0, iv 0, iv 0, .ref (11), iv 0, iv 0, iv 0, iv 0, iv 0, .ref (15)]), zI 400, .inr (3, [iv 300, iv 12, iv 30, iv 1, iv 1, iv 1, iv 2, iv 1, iv 0, iv 0, iv 0, iv 0, iv 0, .ref (12), .ref (13), .ref (14)]), zI 7, zI 7, zI 40, zI 4, zI 120, .inr (1, [iv 1, .ref (18), .ref (19), .ref (20), .ref (21), .ref (22), .ref (23)]), zI 1, zI 1, zI 1, zI 1, zI 1, zI 49, .inr (0, [.ref (25), .ref (26), .ref (27), .ref (28), .ref (29), .ref (30), .ref (31)]), zI 26, zI 25, zI 25, zI 25, zI 2, zI 2, zI 2, .inr (0, [.ref (33), .ref (34), .ref (35), .ref (36), .ref (37), .ref (38), .ref (39)]), zI 26, zI 25, zI 25, zI 25, zI 2, zI 2, zI 2, .inr (4, [iv 0, .ref (41), .ref (42), .ref (43), .ref (44), .ref (45)]), zI 40, zI 40, zI 40, zI 2, zI 2, .inr (4, [iv 0, .ref (47), .ref (48), .ref (49), .ref (50), .ref (51)]), zI 40, zI 40, zI 40, zI 2, zI 2, .inr (3, [iv 300, iv 12, iv 30, iv 1, iv 1, iv 1, iv 2, iv 1, iv 0, iv 0, iv 0, iv 0, iv 0, .ref (53), .ref (54), .ref (55)]), zI 7, zI 7, zI 40, .inr (3, [iv 300, iv 12, iv 30, iv 1, iv 1, iv 1, iv 2, iv 1, iv 0, iv 0, iv 0, iv 0, iv 0, .ref (57), .ref (58), .ref (59)]), zI 7, zI 7, zI 40, .inr (3, [iv 300, iv 12, iv 30, iv 1, iv 1, iv 1, iv 2, iv 1, iv 0, iv 0, iv 0, iv 0, iv 0, .ref (61), .ref (62), .ref (63)]), zI 7, zI 7, zI 40, .inr (3, [iv 300, iv 12, iv 30, iv 1, iv 1, iv 1, iv 2, iv 1, iv 0, iv 0, iv 0, iv 0, iv 0, .ref (65), .ref (66), .ref (67)]), zI 7, zI 7, zI 40, .inr (3, [iv 300, iv 12, iv 30, iv 1, iv 1, iv 1, iv 2, iv 1, iv 0, iv 0, iv 0, iv 0, iv 0, .ref (69), .ref (70), .ref (71)]), zI 7, zI 7, zI 40, .inr (3, [iv 300, iv 12, iv 30, iv 1, iv 1, iv 1, iv 2, iv 1, iv 0, iv 0, iv 0, iv 0, iv 0, .ref (73), .ref (74), .ref (75)]), zI 7, zI 7, zI 40, .inr (3, [iv 300, iv 12, iv 30, iv 1, iv 1, iv 1, iv 2, iv 1, iv 0, iv 0, iv 0, iv 0, iv 0, .ref (77), .ref (78), .ref (79)]), zI 7, zI 7, zI 40, .inr (3, [iv 300, iv 12, iv 30, iv 1, iv 1, iv 1, iv 2, iv 1, iv 0, iv 0, iv 0, iv 0, iv 0, .ref (81), .ref (82), .ref (83)]), zI 7, zI 7, zI 40] rfl ?_
  refine g_iinc1 dX5_init_165 rfl (by decide) ?_
  refine g_goto (tgt := 143) dX5_init_168 rfl ?_
  refine g_iload1 dX5_init_143 ?_
  refine g_aload0 dX5_init_144 ?_
  refine n_get (i := 0) hn rfl rfl fl_X5_16 rfl dX5_init_145 ?_
  refine n_alen (i := 5) hn rfl rfl (by decide) dX5_init_148 ?_
  refine g_icmp_ge ⟨by decide, by decide⟩ ⟨by decide, by decide⟩ (tgt := 171) dX5_init_149 rfl (fun h149 => ?_) (fun h149 => absurd h149 (by decide))
  refine g_iconst dX5_init_171 ?_
  refine g_istore1 dX5_init_172 rfl (by decide) ?_
  refine g_iload1 dX5_init_173 ?_
  refine g_aload0 dX5_init_174 ?_
  refine n_get (i := 0) hn rfl rfl fl_X5_31 rfl dX5_init_175 ?_
  refine n_alen (i := 7) hn rfl rfl (by decide) dX5_init_178 ?_
  refine g_icmp_ge ⟨by decide, by decide⟩ ⟨by decide, by decide⟩ (tgt := 201) dX5_init_179 rfl (fun h179 => absurd h179 (by decide)) (fun h179 => ?_)
  refine g_aload0 dX5_init_182 ?_
  refine n_get (i := 0) hn rfl rfl fl_X5_31 rfl dX5_init_183 ?_
  refine g_iload1 dX5_init_186 ?_
  refine n_new (q := 84) (fs := nw3) hn rfl rfl (by decide) (by decide) ⟨bL_of rfl, bS_of rfl⟩ (ci := 3) rfl (tt1 27 rfl rfl) ⟨(tt1 28 rfl rfl), (tt1 2 rfl rfl)⟩ nwD3 nwR3 dX5_init_187 (by decide) (by decide) ?_
  refine g_dup rfl dX5_init_190 ?_
  refine n_call (q := 84) (fun Q hQ => mkS_ok hQ (by decide) rfl (by decide)) hn rfl rfl oY_X3_init oN_X3_init lk_X5_9 rfl dX5_init_191 (by decide) (by decide) rfl ⟨bL_of rfl, bS_of rfl⟩ ?_
  refine n_nrm [.inr (5, [.ref (1), .ref (5), .ref (6), iv 0, iv 0, .ref (7), .ref (8), .ref (9), .ref (16), iv 0, .ref (17), .ref (24), .ref (32), .ref (40), .ref (46), iv 0]), .inr (3, [iv 300, iv 12, iv 30, iv 1, iv 1, iv 1, iv 2, iv 1, iv 0, iv 0, iv 0, iv 0, iv 0, .ref (2), .ref (3), .ref (4)]), zI 7, zI 7, zI 40, aQ 8 52 8, zI 8, zQ 2, zI 2, .inr (2, [.ref (10), iv 0, iv 0, iv 0, iv 0, .ref (11), iv 0, iv 0, iv 0, iv 0, iv 0, .ref (15)]), zI 400, .inr (3, [iv 300, iv 12, iv 30, iv 1, iv 1, iv 1, iv 2, iv 1, iv 0, iv 0, iv 0, iv 0, iv 0, .ref (12), .ref (13), .ref (14)]), zI 7, zI 7, zI 40, zI 4, zI 120, .inr (1, [iv 1, .ref (18), .ref (19), .ref (20), .ref (21), .ref (22), .ref (23)]), zI 1, zI 1, zI 1, zI 1, zI 1, zI 49, .inr (0, [.ref (25), .ref (26), .ref (27), .ref (28), .ref (29), .ref (30), .ref (31)]), zI 26, zI 25, zI 25, zI 25, zI 2, zI 2, zI 2, .inr (0, [.ref (33), .ref (34), .ref (35), .ref (36), .ref (37), .ref (38), .ref (39)]), zI 26, zI 25, zI 25, zI 25, zI 2, zI 2, zI 2, .inr (4, [iv 0, .ref (41), .ref (42), .ref (43), .ref (44), .ref (45)]), zI 40, zI 40, zI 40, zI 2, zI 2, .inr (4, [iv 0, .ref (47), .ref (48), .ref (49), .ref (50), .ref (51)]), zI 40, zI 40, zI 40, zI 2, zI 2, .inr (3, [iv 300, iv 12, iv 30, iv 1, iv 1, iv 1, iv 2, iv 1, iv 0, iv 0, iv 0, iv 0, iv 0, .ref (53), .ref (54), .ref (55)]), zI 7, zI 7, zI 40, .inr (3, [iv 300, iv 12, iv 30, iv 1, iv 1, iv 1, iv 2, iv 1, iv 0, iv 0, iv 0, iv 0, iv 0, .ref (57), .ref (58), .ref (59)]), zI 7, zI 7, zI 40, .inr (3, [iv 300, iv 12, iv 30, iv 1, iv 1, iv 1, iv 2, iv 1, iv 0, iv 0, iv 0, iv 0, iv 0, .ref (61), .ref (62), .ref (63)]), zI 7, zI 7, zI 40, .inr (3, [iv 300, iv 12, iv 30, iv 1, iv 1, iv 1, iv 2, iv 1, iv 0, iv 0, iv 0, iv 0, iv 0, .ref (65), .ref (66), .ref (67)]), zI 7, zI 7, zI 40, .inr (3, [iv 300, iv 12, iv 30, iv 1, iv 1, iv 1, iv 2, iv 1, iv 0, iv 0, iv 0, iv 0, iv 0, .ref (69), .ref (70), .ref (71)]), zI 7, zI 7, zI 40, .inr (3, [iv 300, iv 12, iv 30, iv 1, iv 1, iv 1, iv 2, iv 1, iv 0, iv 0, iv 0, iv 0, iv 0, .ref (73), .ref (74), .ref (75)]), zI 7, zI 7, zI 40, .inr (3, [iv 300, iv 12, iv 30, iv 1, iv 1, iv 1, iv 2, iv 1, iv 0, iv 0, iv 0, iv 0, iv 0, .ref (77), .ref (78), .ref (79)]), zI 7, zI 7, zI 40, .inr (3, [iv 300, iv 12, iv 30, iv 1, iv 1, iv 1, iv 2, iv 1, iv 0, iv 0, iv 0, iv 0, iv 0, .ref (81), .ref (82), .ref (83)]), zI 7, zI 7, zI 40, .inr (3, [iv 300, iv 12, iv 30, iv 1, iv 1, iv 1, iv 2, iv 1, iv 0, iv 0, iv 0, iv 0, iv 0, .ref (85), .ref (86), .ref (87)]), zI 7, zI 7, zI 40] rfl ?_
  refine n_aastQ (i := 7) (r := 84) (N := 2) (b := 84) (m := 0) (by rw [aQ_z]; rfl) hn rfl rfl rfl rfl ⟨by decide, by decide⟩ (by decide) rfl rfl dX5_init_194 ?_
  refine n_nrm [.inr (5, [.ref (1), .ref (5), .ref (6), iv 0, iv 0, .ref (7), .ref (8), .ref (9), .ref (16), iv 0, .ref (17), .ref (24), .ref (32), .ref (40), .ref (46), iv 0]), .inr (3, [iv 300, iv 12, iv 30, iv 1, iv 1, iv 1, iv 2, iv 1, iv 0, iv 0, iv 0, iv 0, iv 0, .ref (2), .ref (3), .ref (4)]), zI 7, zI 7, zI 40, aQ 8 52 8, zI 8, aQ 2 84 1, zI 2, .inr (2, [.ref (10), iv 0, iv 0, iv 0, iv 0, .ref (11), iv 0, iv 0, iv 0, iv 0, iv 0, .ref (15)]), zI 400, .inr (3, [iv 300, iv 12, iv 30, iv 1, iv 1, iv 1, iv 2, iv 1, iv 0, iv 0, iv 0, iv 0, iv 0, .ref (12), .ref (13), .ref (14)]), zI 7, zI 7, zI 40, zI 4, zI 120, .inr (1, [iv 1, .ref (18), .ref (19), .ref (20), .ref (21), .ref (22), .ref (23)]), zI 1, zI 1, zI 1, zI 1, zI 1, zI 49, .inr (0, [.ref (25), .ref (26), .ref (27), .ref (28), .ref (29), .ref (30), .ref (31)]), zI 26, zI 25, zI 25, zI 25, zI 2, zI 2, zI 2, .inr (0, [.ref (33), .ref (34), .ref (35), .ref (36), .ref (37), .ref (38), .ref (39)]), zI 26, zI 25, zI 25, zI 25, zI 2, zI 2, zI 2, .inr (4, [iv 0, .ref (41), .ref (42), .ref (43), .ref (44), .ref (45)]), zI 40, zI 40, zI 40, zI 2, zI 2, .inr (4, [iv 0, .ref (47), .ref (48), .ref (49), .ref (50), .ref (51)]), zI 40, zI 40, zI 40, zI 2, zI 2, .inr (3, [iv 300, iv 12, iv 30, iv 1, iv 1, iv 1, iv 2, iv 1, iv 0, iv 0, iv 0, iv 0, iv 0, .ref (53), .ref (54), .ref (55)]), zI 7, zI 7, zI 40, .inr (3, [iv 300, iv 12, iv 30, iv 1, iv 1, iv 1, iv 2, iv 1, iv 0, iv 0, iv 0, iv 0, iv 0, .ref (57), .ref (58), .ref (59)]), zI 7, zI 7, zI 40, .inr (3, [iv 300, iv 12, iv 30, iv 1, iv 1, iv 1, iv 2, iv 1, iv 0, iv 0, iv 0, iv 0, iv 0, .ref (61), .ref (62), .ref (63)]), zI 7, zI 7, zI 40, .inr (3, [iv 300, iv 12, iv 30, iv 1, iv 1, iv 1, iv 2, iv 1, iv 0, iv 0, iv 0, iv 0, iv 0, .ref (65), .ref (66), .ref (67)]), zI 7, zI 7, zI 40, .inr (3, [iv 300, iv 12, iv 30, iv 1, iv 1, iv 1, iv 2, iv 1, iv 0, iv 0, iv 0, iv 0, iv 0, .ref (69), .ref (70), .ref (71)]), zI 7, zI 7, zI 40, .inr (3, [iv 300, iv 12, iv 30, iv 1, iv 1, iv 1, iv 2, iv 1, iv 0, iv 0, iv 0, iv 0, iv 0, .ref (73), .ref (74), .ref (75)]), zI 7, zI 7, zI 40, .inr (3, [iv 300, iv 12, iv 30, iv 1, iv 1, iv 1, iv 2, iv 1, iv 0, iv 0, iv 0, iv 0, iv 0, .ref (77), .ref (78), .ref (79)]), zI 7, zI 7, zI 40, .inr (3, [iv 300, iv 12, iv 30, iv 1, iv 1, iv 1, iv 2, iv 1, iv 0, iv 0, iv 0, iv 0, iv 0, .ref (81), .ref (82), .ref (83)]), zI 7, zI 7, zI 40, .inr (3, [iv 300, iv 12, iv 30, iv 1, iv 1, iv 1, iv 2, iv 1, iv 0, iv 0, iv 0, iv 0, iv 0, .ref (85), .ref (86), .ref (87)]), zI 7, zI 7, zI 40] rfl ?_
  refine g_iinc1 dX5_init_195 rfl (by decide) ?_
  refine g_goto (tgt := 173) dX5_init_198 rfl ?_
  refine g_iload1 dX5_init_173 ?_
  refine g_aload0 dX5_init_174 ?_
  refine n_get (i := 0) hn rfl rfl fl_X5_31 rfl dX5_init_175 ?_
  refine n_alen (i := 7) hn rfl rfl (by decide) dX5_init_178 ?_
  refine g_icmp_ge ⟨by decide, by decide⟩ ⟨by decide, by decide⟩ (tgt := 201) dX5_init_179 rfl (fun h179 => absurd h179 (by decide)) (fun h179 => ?_)
  refine g_aload0 dX5_init_182 ?_
  refine n_get (i := 0) hn rfl rfl fl_X5_31 rfl dX5_init_183 ?_
  refine g_iload1 dX5_init_186 ?_
  refine n_new (q := 88) (fs := nw3) hn rfl rfl (by decide) (by decide) ⟨bL_of rfl, bS_of rfl⟩ (ci := 3) rfl (tt1 27 rfl rfl) ⟨(tt1 28 rfl rfl), (tt1 2 rfl rfl)⟩ nwD3 nwR3 dX5_init_187 (by decide) (by decide) ?_
  refine g_dup rfl dX5_init_190 ?_
  refine n_call (q := 88) (fun Q hQ => mkS_ok hQ (by decide) rfl (by decide)) hn rfl rfl oY_X3_init oN_X3_init lk_X5_9 rfl dX5_init_191 (by decide) (by decide) rfl ⟨bL_of rfl, bS_of rfl⟩ ?_
  refine n_nrm [.inr (5, [.ref (1), .ref (5), .ref (6), iv 0, iv 0, .ref (7), .ref (8), .ref (9), .ref (16), iv 0, .ref (17), .ref (24), .ref (32), .ref (40), .ref (46), iv 0]), .inr (3, [iv 300, iv 12, iv 30, iv 1, iv 1, iv 1, iv 2, iv 1, iv 0, iv 0, iv 0, iv 0, iv 0, .ref (2), .ref (3), .ref (4)]), zI 7, zI 7, zI 40, aQ 8 52 8, zI 8, aQ 2 84 1, zI 2, .inr (2, [.ref (10), iv 0, iv 0, iv 0, iv 0, .ref (11), iv 0, iv 0, iv 0, iv 0, iv 0, .ref (15)]), zI 400, .inr (3, [iv 300, iv 12, iv 30, iv 1, iv 1, iv 1, iv 2, iv 1, iv 0, iv 0, iv 0, iv 0, iv 0, .ref (12), .ref (13), .ref (14)]), zI 7, zI 7, zI 40, zI 4, zI 120, .inr (1, [iv 1, .ref (18), .ref (19), .ref (20), .ref (21), .ref (22), .ref (23)]), zI 1, zI 1, zI 1, zI 1, zI 1, zI 49, .inr (0, [.ref (25), .ref (26), .ref (27), .ref (28), .ref (29), .ref (30), .ref (31)]), zI 26, zI 25, zI 25, zI 25, zI 2, zI 2, zI 2, .inr (0, [.ref (33), .ref (34), .ref (35), .ref (36), .ref (37), .ref (38), .ref (39)]), zI 26, zI 25, zI 25, zI 25, zI 2, zI 2, zI 2, .inr (4, [iv 0, .ref (41), .ref (42), .ref (43), .ref (44), .ref (45)]), zI 40, zI 40, zI 40, zI 2, zI 2, .inr (4, [iv 0, .ref (47), .ref (48), .ref (49), .ref (50), .ref (51)]), zI 40, zI 40, zI 40, zI 2, zI 2, .inr (3, [iv 300, iv 12, iv 30, iv 1, iv 1, iv 1, iv 2, iv 1, iv 0, iv 0, iv 0, iv 0, iv 0, .ref (53), .ref (54), .ref (55)]), zI 7, zI 7, zI 40, .inr (3, [iv 300, iv 12, iv 30, iv 1, iv 1, iv 1, iv 2, iv 1, iv 0, iv 0, iv 0, iv 0, iv 0, .ref (57), .ref (58), .ref (59)]), zI 7, zI 7, zI 40, .inr (3, [iv 300, iv 12, iv 30, iv 1, iv 1, iv 1, iv 2, iv 1, iv 0, iv 0, iv 0, iv 0, iv 0, .ref (61), .ref (62), .ref (63)]), zI 7, zI 7, zI 40, .inr (3, [iv 300, iv 12, iv 30, iv 1, iv 1, iv 1, iv 2, iv 1, iv 0, iv 0, iv 0, iv 0, iv 0, .ref (65), .ref (66), .ref (67)]), zI 7, zI 7, zI 40, .inr (3, [iv 300, iv 12, iv 30, iv 1, iv 1, iv 1, iv 2, iv 1, iv 0, iv 0, iv 0, iv 0, iv 0, .ref (69), .ref (70), .ref (71)]), zI 7, zI 7, zI 40, .inr (3, [iv 300, iv 12, iv 30, iv 1, iv 1, iv 1, iv 2, iv 1, iv 0, iv 0, iv 0, iv 0, iv 0, .ref (73), .ref (74), .ref (75)]), zI 7, zI 7, zI 40, .inr (3, [iv 300, iv 12, iv 30, iv 1, iv 1, iv 1, iv 2, iv 1, iv 0, iv 0, iv 0, iv 0, iv 0, .ref (77), .ref (78), .ref (79)]), zI 7, zI 7, zI 40, .inr (3, [iv 300, iv 12, iv 30, iv 1, iv 1, iv 1, iv 2, iv 1, iv 0, iv 0, iv 0, iv 0, iv 0, .ref (81), .ref (82), .ref (83)]), zI 7, zI 7, zI 40, .inr (3, [iv 300, iv 12, iv 30, iv 1, iv 1, iv 1, iv 2, iv 1, iv 0, iv 0, iv 0, iv 0, iv 0, .ref (85), .ref (86), .ref (87)]), zI 7, zI 7, zI 40, .inr (3, [iv 300, iv 12, iv 30, iv 1, iv 1, iv 1, iv 2, iv 1, iv 0, iv 0, iv 0, iv 0, iv 0, .ref (89), .ref (90), .ref (91)]), zI 7, zI 7, zI 40] rfl ?_
  refine n_aastQ (i := 7) (r := 88) (N := 2) (b := 84) (m := 1) rfl hn rfl rfl rfl rfl ⟨by decide, by decide⟩ (by decide) rfl rfl dX5_init_194 ?_
  refine n_nrm [.inr (5, [.ref (1), .ref (5), .ref (6), iv 0, iv 0, .ref (7), .ref (8), .ref (9), .ref (16), iv 0, .ref (17), .ref (24), .ref (32), .ref (40), .ref (46), iv 0]), .inr (3, [iv 300, iv 12, iv 30, iv 1, iv 1, iv 1, iv 2, iv 1, iv 0, iv 0, iv 0, iv 0, iv 0, .ref (2), .ref (3), .ref (4)]), zI 7, zI 7, zI 40, aQ 8 52 8, zI 8, aQ 2 84 2, zI 2, .inr (2, [.ref (10), iv 0, iv 0, iv 0, iv 0, .ref (11), iv 0, iv 0, iv 0, iv 0, iv 0, .ref (15)]), zI 400, .inr (3, [iv 300, iv 12, iv 30, iv 1, iv 1, iv 1, iv 2, iv 1, iv 0, iv 0, iv 0, iv 0, iv 0, .ref (12), .ref (13), .ref (14)]), zI 7, zI 7, zI 40, zI 4, zI 120, .inr (1, [iv 1, .ref (18), .ref (19), .ref (20), .ref (21), .ref (22), .ref (23)]), zI 1, zI 1, zI 1, zI 1, zI 1, zI 49, .inr (0, [.ref (25), .ref (26), .ref (27), .ref (28), .ref (29), .ref (30), .ref (31)]), zI 26, zI 25, zI 25, zI 25, zI 2, zI 2, zI 2, .inr (0, [.ref (33), .ref (34), .ref (35), .ref (36), .ref (37), .ref (38), .ref (39)]), zI 26, zI 25, zI 25, zI 25, zI 2, zI 2, zI 2, .inr (4, [iv 0, .ref (41), .ref (42), .ref (43), .ref (44), .ref (45)]), zI 40, zI 40, zI 40, zI 2, zI 2, .inr (4, [iv 0, .ref (47), .ref (48), .ref (49), .ref (50), .ref (51)]), zI 40, zI 40, zI 40, zI 2, zI 2, .inr (3, [iv 300, iv 12, iv 30, iv 1, iv 1, iv 1, iv 2, iv 1, iv 0, iv 0, iv 0, iv 0, iv 0, .ref (53), .ref (54), .ref (55)]), zI 7, zI 7, zI 40, .inr (3, [iv 300, iv 12, iv 30, iv 1, iv 1, iv 1, iv 2, iv 1, iv 0, iv 0, iv 0, iv 0, iv 0, .ref (57), .ref (58), .ref (59)]), zI 7, zI 7, zI 40, .inr (3, [iv 300, iv 12, iv 30, iv 1, iv 1, iv 1, iv 2, iv 1, iv 0, iv 0, iv 0, iv 0, iv 0, .ref (61), .ref (62), .ref (63)]), zI 7, zI 7, zI 40, .inr (3, [iv 300, iv 12, iv 30, iv 1, iv 1, iv 1, iv 2, iv 1, iv 0, iv 0, iv 0, iv 0, iv 0, .ref (65), .ref (66), .ref (67)]), zI 7, zI 7, zI 40, .inr (3, [iv 300, iv 12, iv 30, iv 1, iv 1, iv 1, iv 2, iv 1, iv 0, iv 0, iv 0, iv 0, iv 0, .ref (69), .ref (70), .ref (71)]), zI 7, zI 7, zI 40, .inr (3, [iv 300, iv 12, iv 30, iv 1, iv 1, iv 1, iv 2, iv 1, iv 0, iv 0, iv 0, iv 0, iv 0, .ref (73), .ref (74), .ref (75)]), zI 7, zI 7, zI 40, .inr (3, [iv 300, iv 12, iv 30, iv 1, iv 1, iv 1, iv 2, iv 1, iv 0, iv 0, iv 0, iv 0, iv 0, .ref (77), .ref (78), .ref (79)]), zI 7, zI 7, zI 40, .inr (3, [iv 300, iv 12, iv 30, iv 1, iv 1, iv 1, iv 2, iv 1, iv 0, iv 0, iv 0, iv 0, iv 0, .ref (81), .ref (82), .ref (83)]), zI 7, zI 7, zI 40, .inr (3, [iv 300, iv 12, iv 30, iv 1, iv 1, iv 1, iv 2, iv 1, iv 0, iv 0, iv 0, iv 0, iv 0, .ref (85), .ref (86), .ref (87)]), zI 7, zI 7, zI 40, .inr (3, [iv 300, iv 12, iv 30, iv 1, iv 1, iv 1, iv 2, iv 1, iv 0, iv 0, iv 0, iv 0, iv 0, .ref (89), .ref (90), .ref (91)]), zI 7, zI 7, zI 40] rfl ?_
  refine g_iinc1 dX5_init_195 rfl (by decide) ?_
  refine g_goto (tgt := 173) dX5_init_198 rfl ?_
  refine g_iload1 dX5_init_173 ?_
  refine g_aload0 dX5_init_174 ?_
  refine n_get (i := 0) hn rfl rfl fl_X5_31 rfl dX5_init_175 ?_
  refine n_alen (i := 7) hn rfl rfl (by decide) dX5_init_178 ?_
  refine g_icmp_ge ⟨by decide, by decide⟩ ⟨by decide, by decide⟩ (tgt := 201) dX5_init_179 rfl (fun h179 => ?_) (fun h179 => absurd h179 (by decide))
  exact g_return rfl dX5_init_201 ⟨rfl, rfl⟩
def bgF : Nat → Int32 := upd (upd (upd (upd (upd (fun _ => 0) 4 1) 5 1) 6 1) 7 2) 8 1
theorem upd_z (k : Nat) : upd (fun _ => (0 : Int32)) k 0 = fun _ => 0 := by
  funext j
  unfold upd
  split <;> rfl
section
variable {g : gT}
theorem beg_raw {M : mM} {r : Nat} (hr : M[r]? = some (zI 67)) : Rn g zX6_begins 0 0 [.ref r] M (fun o M' => o = .inl none ∧ M' = M.set r (.inl (0, 67, .inl bgF))) := by
  have hM : M.set r (zI 67) = M := by
    obtain ⟨h1, h2⟩ := List.getElem?_eq_some_iff.mp hr
    rw [← h2]; exact List.set_getElem_self h1
  have hlt := (List.getElem?_eq_some_iff.mp hr).1
  refine Rn.of [some (.ref r), none] rfl (by decide) (Nat.le_of_ble_eq_true rfl) rfl ?_
  have loop : ∀ k : Nat, k ≤ 67 → ∀ i : Int, i = (k : Int) → GW g zX6_begins 0 0 (fun o M' => o = .inl none ∧ M' = M.set r (.inl (0, 67, .inl bgF))) 2 [some (.ref r), some (iv i)] [] M := by
    refine loopUp _ (fun k hk2 ih i hi => ?_)
    subst hi
    refine g_iload1 dX6_begins_2 ?_
    refine g_bipush dX6_begins_3 (by decide) ?_
    refine g_icmp_ge ⟨by omega, by omega⟩ ⟨by decide, by decide⟩ (tgt := 18) dX6_begins_5 rfl (fun h5 => ?_) (fun h5 => ?_)
    · refine g_aload0 dX6_begins_18 ?_
      refine g_iconst dX6_begins_19 ?_
      refine g_iconst dX6_begins_20 ?_
      refine g_iast hr ⟨by decide, by decide⟩ (by decide) dX6_begins_21 ?_
      refine g_aload0 dX6_begins_22 ?_
      refine g_iconst dX6_begins_23 ?_
      refine g_iconst dX6_begins_24 ?_
      refine g_iast (show (M.set r _)[r]? = some _ from by rw [List.getElem?_set, if_pos rfl, if_pos hlt]) ⟨by decide, by decide⟩ (by decide) dX6_begins_25 ?_
      rw [List.set_set]
      refine g_aload0 dX6_begins_26 ?_
      refine g_bipush dX6_begins_27 (by decide) ?_
      refine g_iconst dX6_begins_29 ?_
      refine g_iast (show (M.set r _)[r]? = some _ from by rw [List.getElem?_set, if_pos rfl, if_pos hlt]) ⟨by decide, by decide⟩ (by decide) dX6_begins_30 ?_
      rw [List.set_set]
      refine g_aload0 dX6_begins_31 ?_
      refine g_bipush dX6_begins_32 (by decide) ?_
      refine g_iconst dX6_begins_34 ?_
      refine g_iast (show (M.set r _)[r]? = some _ from by rw [List.getElem?_set, if_pos rfl, if_pos hlt]) ⟨by decide, by decide⟩ (by decide) dX6_begins_35 ?_
      rw [List.set_set]
      refine g_aload0 dX6_begins_36 ?_
      refine g_bipush dX6_begins_37 (by decide) ?_
      refine g_iconst dX6_begins_39 ?_
      refine g_iast (show (M.set r _)[r]? = some _ from by rw [List.getElem?_set, if_pos rfl, if_pos hlt]) ⟨by decide, by decide⟩ (by decide) dX6_begins_40 ?_
      rw [List.set_set]
      exact g_return rfl dX6_begins_41 ⟨rfl, rfl⟩
    · refine g_aload0 dX6_begins_8 ?_
      refine g_iload1 dX6_begins_9 ?_
      refine g_iconst dX6_begins_10 ?_
      refine g_iast hr ⟨by omega, by omega⟩ (by omega) dX6_begins_11 ?_
      rw [show upd (fun _ => (0 : Int32)) (k : Int).toNat (Int32.ofInt 0) = fun _ => 0 from upd_z _]
      rw [show M.set r (.inl (0, 67, .inl (fun _ => 0))) = M from hM]
      refine g_iinc1 dX6_begins_12 rfl (by decide) ?_
      refine g_goto (tgt := 2) dX6_begins_15 rfl ?_
      exact ih (by omega) _ (by omega)
  refine g_iconst dX6_begins_0 ?_
  refine g_istore1 dX6_begins_1 rfl (by decide) ?_
  exact loop 0 (by decide) _ rfl
theorem n_beg {y : yT} {k n : Nat} {Φ : mO → mM → Prop} {pc : Nat} {L : List (Option Value)} {st : List Value} {P cs : mM} {n0 i idx o : Nat} (hn : P.length = n0) (ho : n0 + i = o) (hc : cs[i]? = some (zI 67)) (hlk : LK (yN y).cls idx yX6_begins) (hF : fitY y zX6_begins = true) (hd : decode (yB y) pc = .ok (.invokestatic idx, 3)) (hcat : Nat.ble ((st.map fun v => v.category).sum) 8 = true) (h : GW g y k n Φ (pc + 3) L st (P ++ cs.set i (.inl (0, 67, .inl bgF)))) : GW g y k n Φ pc L (.ref o :: st) (P ++ cs) := by
  subst ho
  refine g_callS (As := [.ref (n0 + i)]) (beg_raw ((ap_get hn).trans hc)) oY_X6_begins oT_X6_begins hlk hF hd (Nat.zero_le _) (Nat.zero_le _) (Nat.le_of_ble_eq_true hcat) (Or.inl rfl) (fun v M' hM => ?_) (fun e9 M' hM => by cases hM.1)
  obtain ⟨h1, rfl⟩ := hM
  cases h1
  rw [ap_set hn]
  exact h
end
def mkMB : mM := [.inr (6, [.ref (93), .ref (94), .ref (95), .ref (96), .ref (97), iv 0, iv 0, .ref (98), .ref (99), .ref (100), .ref (101), .ref (102), .ref (103), .ref (104), .ref (105), iv 0, iv 0, iv 0, iv 0, iv 0, iv 0, iv (-1), iv 0, .ref (106), .ref (107), iv 0]), .inl (0, 67, .inl (upd (upd (upd bgF 0 (Int32.ofInt 300)) 1 (Int32.ofInt 12)) 2 (Int32.ofInt 30))), zI 67, zI 536, zI 134, zZ 2, zL 49, zI 4374, zI 4374, zI 4374, zI 174960, zI 4374, zI 40, zI 400, zI 4, zI 200]
theorem mkM_ok {g : gT} {P : mM} (hn : P.length = 92) : Rn g zX6_init 15 193955 [.ref 92] (P ++ [.inr (6, nw6)]) (fun o M => o = .inl none ∧ M = P ++ mkMB) := by
  refine Rn.of [some (.ref 92)] rfl (by decide) (Nat.le_of_ble_eq_true rfl) rfl ?_
  refine g_aload0 dX6_init_0 ?_
  refine n_oinit (i := 0) hn rfl rfl (tt5 212 rfl rfl) ⟨by decide, by decide⟩ dX6_init_1 ?_
  refine g_aload0 dX6_init_4 ?_
  refine g_bipush dX6_init_5 (by decide) ?_
  refine n_newI (N := 67) (q := 93) hn rfl rfl (by decide) (by decide) ⟨bL_of rfl, bS_of rfl⟩ (by decide) dX6_init_7 (by decide) (by decide) ?_
  refine n_nrm [.inr (6, nw6), zI 67] rfl ?_
  refine n_putF (i := 0) hn rfl rfl ff_X6_7 (fun _ _ _ h => by cases h; rfl) rfl (Or.inr ⟨1, rfl, show 2 ≤ _ from Nat.le_of_ble_eq_true rfl, (by decide)⟩) (fun _ => rfl) (fun _ => rfl) (show 1 ≤ _ from Nat.le_of_ble_eq_true rfl) dX6_init_9 ?_
  refine n_nrm [.inr (6, [.ref (93), .null, .null, .null, .null, iv 0, iv 0, .null, .null, .null, .null, .null, .null, .null, .null, iv 0, iv 0, iv 0, iv 0, iv 0, iv 0, iv 0, iv 0, .null, .null, iv 0]), zI 67] rfl ?_
  refine g_aload0 dX6_init_12 ?_
  refine g_bipush dX6_init_13 (by decide) ?_
  refine n_newI (N := 67) (q := 94) hn rfl rfl (by decide) (by decide) ⟨bL_of rfl, bS_of rfl⟩ (by decide) dX6_init_15 (by decide) (by decide) ?_
  refine n_nrm [.inr (6, [.ref (93), .null, .null, .null, .null, iv 0, iv 0, .null, .null, .null, .null, .null, .null, .null, .null, iv 0, iv 0, iv 0, iv 0, iv 0, iv 0, iv 0, iv 0, .null, .null, iv 0]), zI 67, zI 67] rfl ?_
  refine n_putF (i := 0) hn rfl rfl ff_X6_13 (fun _ _ _ h => by cases h; rfl) rfl (Or.inr ⟨2, rfl, show 3 ≤ _ from Nat.le_of_ble_eq_true rfl, (by decide)⟩) (fun _ => rfl) (fun _ => rfl) (show 2 ≤ _ from Nat.le_of_ble_eq_true rfl) dX6_init_17 ?_
  refine n_nrm [.inr (6, [.ref (93), .ref (94), .null, .null, .null, iv 0, iv 0, .null, .null, .null, .null, .null, .null, .null, .null, iv 0, iv 0, iv 0, iv 0, iv 0, iv 0, iv 0, iv 0, .null, .null, iv 0]), zI 67, zI 67] rfl ?_
  refine g_aload0 dX6_init_20 ?_
  refine g_sipush dX6_init_21 (by decide) ?_
  refine n_newI (N := 536) (q := 95) hn rfl rfl (by decide) (by decide) ⟨bL_of rfl, bS_of rfl⟩ (by decide) dX6_init_24 (by decide) (by decide) ?_
  refine n_nrm [.inr (6, [.ref (93), .ref (94), .null, .null, .null, iv 0, iv 0, .null, .null, .null, .null, .null, .null, .null, .null, iv 0, iv 0, iv 0, iv 0, iv 0, iv 0, iv 0, iv 0, .null, .null, iv 0]), zI 67, zI 67, zI 536] rfl ?_
  refine n_putF (i := 0) hn rfl rfl ff_X6_16 (fun _ _ _ h => by cases h; rfl) rfl (Or.inr ⟨3, rfl, show 4 ≤ _ from Nat.le_of_ble_eq_true rfl, (by decide)⟩) (fun _ => rfl) (fun _ => rfl) (show 3 ≤ _ from Nat.le_of_ble_eq_true rfl) dX6_init_26 ?_
  refine n_nrm [.inr (6, [.ref (93), .ref (94), .ref (95), .null, .null, iv 0, iv 0, .null, .null, .null, .null, .null, .null, .null, .null, iv 0, iv 0, iv 0, iv 0, iv 0, iv 0, iv 0, iv 0, .null, .null, iv 0]), zI 67, zI 67, zI 536] rfl ?_
  refine g_aload0 dX6_init_29 ?_
  refine g_sipush dX6_init_30 (by decide) ?_
  refine n_newI (N := 134) (q := 96) hn rfl rfl (by decide) (by decide) ⟨bL_of rfl, bS_of rfl⟩ (by decide) dX6_init_33 (by decide) (by decide) ?_
  refine n_nrm [.inr (6, [.ref (93), .ref (94), .ref (95), .null, .null, iv 0, iv 0, .null, .null, .null, .null, .null, .null, .null, .null, iv 0, iv 0, iv 0, iv 0, iv 0, iv 0, iv 0, iv 0, .null, .null, iv 0]), zI 67, zI 67, zI 536, zI 134] rfl ?_
  refine n_putF (i := 0) hn rfl rfl ff_X6_19 (fun _ _ _ h => by cases h; rfl) rfl (Or.inr ⟨4, rfl, show 5 ≤ _ from Nat.le_of_ble_eq_true rfl, (by decide)⟩) (fun _ => rfl) (fun _ => rfl) (show 4 ≤ _ from Nat.le_of_ble_eq_true rfl) dX6_init_35 ?_
  refine n_nrm [.inr (6, [.ref (93), .ref (94), .ref (95), .ref (96), .null, iv 0, iv 0, .null, .null, .null, .null, .null, .null, .null, .null, iv 0, iv 0, iv 0, iv 0, iv 0, iv 0, iv 0, iv 0, .null, .null, iv 0]), zI 67, zI 67, zI 536, zI 134] rfl ?_
  refine g_aload0 dX6_init_38 ?_
  refine g_iconst dX6_init_39 ?_
  refine n_newZ (N := 2) (q := 97) hn rfl rfl (by decide) (by decide) ⟨bL_of rfl, bS_of rfl⟩ (by decide) dX6_init_40 (by decide) (by decide) ?_
  refine n_nrm [.inr (6, [.ref (93), .ref (94), .ref (95), .ref (96), .null, iv 0, iv 0, .null, .null, .null, .null, .null, .null, .null, .null, iv 0, iv 0, iv 0, iv 0, iv 0, iv 0, iv 0, iv 0, .null, .null, iv 0]), zI 67, zI 67, zI 536, zI 134, zZ 2] rfl ?_
  refine n_putF (i := 0) hn rfl rfl ff_X6_22 (fun _ _ _ h => by cases h; rfl) rfl (Or.inr ⟨5, rfl, show 6 ≤ _ from Nat.le_of_ble_eq_true rfl, (by decide)⟩) (fun _ => rfl) (fun _ => rfl) (show 5 ≤ _ from Nat.le_of_ble_eq_true rfl) dX6_init_42 ?_
  refine n_nrm [.inr (6, [.ref (93), .ref (94), .ref (95), .ref (96), .ref (97), iv 0, iv 0, .null, .null, .null, .null, .null, .null, .null, .null, iv 0, iv 0, iv 0, iv 0, iv 0, iv 0, iv 0, iv 0, .null, .null, iv 0]), zI 67, zI 67, zI 536, zI 134, zZ 2] rfl ?_
  refine g_aload0 dX6_init_45 ?_
  refine g_bipush dX6_init_46 (by decide) ?_
  refine n_newL (N := 49) (q := 98) hn rfl rfl (by decide) (by decide) ⟨bL_of rfl, bS_of rfl⟩ (by decide) dX6_init_48 (by decide) (by decide) ?_
  refine n_nrm [.inr (6, [.ref (93), .ref (94), .ref (95), .ref (96), .ref (97), iv 0, iv 0, .null, .null, .null, .null, .null, .null, .null, .null, iv 0, iv 0, iv 0, iv 0, iv 0, iv 0, iv 0, iv 0, .null, .null, iv 0]), zI 67, zI 67, zI 536, zI 134, zZ 2, zL 49] rfl ?_
  refine n_putF (i := 0) hn rfl rfl ff_X6_26 (fun _ _ _ h => by cases h; rfl) rfl (Or.inr ⟨6, rfl, show 7 ≤ _ from Nat.le_of_ble_eq_true rfl, (by decide)⟩) (fun _ => rfl) (fun _ => rfl) (show 8 ≤ _ from Nat.le_of_ble_eq_true rfl) dX6_init_50 ?_
  refine n_nrm [.inr (6, [.ref (93), .ref (94), .ref (95), .ref (96), .ref (97), iv 0, iv 0, .ref (98), .null, .null, .null, .null, .null, .null, .null, iv 0, iv 0, iv 0, iv 0, iv 0, iv 0, iv 0, iv 0, .null, .null, iv 0]), zI 67, zI 67, zI 536, zI 134, zZ 2, zL 49] rfl ?_
  refine g_aload0 dX6_init_53 ?_
  refine g_sipush dX6_init_54 (by decide) ?_
  refine n_newI (N := 4374) (q := 99) hn rfl rfl (by decide) (by decide) ⟨bL_of rfl, bS_of rfl⟩ (by decide) dX6_init_57 (by decide) (by decide) ?_
  refine n_nrm [.inr (6, [.ref (93), .ref (94), .ref (95), .ref (96), .ref (97), iv 0, iv 0, .ref (98), .null, .null, .null, .null, .null, .null, .null, iv 0, iv 0, iv 0, iv 0, iv 0, iv 0, iv 0, iv 0, .null, .null, iv 0]), zI 67, zI 67, zI 536, zI 134, zZ 2, zL 49, zI 4374] rfl ?_
  refine n_putF (i := 0) hn rfl rfl ff_X6_30 (fun _ _ _ h => by cases h; rfl) rfl (Or.inr ⟨7, rfl, show 8 ≤ _ from Nat.le_of_ble_eq_true rfl, (by decide)⟩) (fun _ => rfl) (fun _ => rfl) (show 9 ≤ _ from Nat.le_of_ble_eq_true rfl) dX6_init_59 ?_
  refine n_nrm [.inr (6, [.ref (93), .ref (94), .ref (95), .ref (96), .ref (97), iv 0, iv 0, .ref (98), .ref (99), .null, .null, .null, .null, .null, .null, iv 0, iv 0, iv 0, iv 0, iv 0, iv 0, iv 0, iv 0, .null, .null, iv 0]), zI 67, zI 67, zI 536, zI 134, zZ 2, zL 49, zI 4374] rfl ?_
  refine g_aload0 dX6_init_62 ?_
  refine g_sipush dX6_init_63 (by decide) ?_
  refine n_newI (N := 4374) (q := 100) hn rfl rfl (by decide) (by decide) ⟨bL_of rfl, bS_of rfl⟩ (by decide) dX6_init_66 (by decide) (by decide) ?_
  refine n_nrm [.inr (6, [.ref (93), .ref (94), .ref (95), .ref (96), .ref (97), iv 0, iv 0, .ref (98), .ref (99), .null, .null, .null, .null, .null, .null, iv 0, iv 0, iv 0, iv 0, iv 0, iv 0, iv 0, iv 0, .null, .null, iv 0]), zI 67, zI 67, zI 536, zI 134, zZ 2, zL 49, zI 4374, zI 4374] rfl ?_
  refine n_putF (i := 0) hn rfl rfl ff_X6_33 (fun _ _ _ h => by cases h; rfl) rfl (Or.inr ⟨8, rfl, show 9 ≤ _ from Nat.le_of_ble_eq_true rfl, (by decide)⟩) (fun _ => rfl) (fun _ => rfl) (show 10 ≤ _ from Nat.le_of_ble_eq_true rfl) dX6_init_68 ?_
  refine n_nrm [.inr (6, [.ref (93), .ref (94), .ref (95), .ref (96), .ref (97), iv 0, iv 0, .ref (98), .ref (99), .ref (100), .null, .null, .null, .null, .null, iv 0, iv 0, iv 0, iv 0, iv 0, iv 0, iv 0, iv 0, .null, .null, iv 0]), zI 67, zI 67, zI 536, zI 134, zZ 2, zL 49, zI 4374, zI 4374] rfl ?_
  refine g_aload0 dX6_init_71 ?_
  refine g_sipush dX6_init_72 (by decide) ?_
  refine n_newI (N := 4374) (q := 101) hn rfl rfl (by decide) (by decide) ⟨bL_of rfl, bS_of rfl⟩ (by decide) dX6_init_75 (by decide) (by decide) ?_
  refine n_nrm [.inr (6, [.ref (93), .ref (94), .ref (95), .ref (96), .ref (97), iv 0, iv 0, .ref (98), .ref (99), .ref (100), .null, .null, .null, .null, .null, iv 0, iv 0, iv 0, iv 0, iv 0, iv 0, iv 0, iv 0, .null, .null, iv 0]), zI 67, zI 67, zI 536, zI 134, zZ 2, zL 49, zI 4374, zI 4374, zI 4374] rfl ?_
  refine n_putF (i := 0) hn rfl rfl ff_X6_36 (fun _ _ _ h => by cases h; rfl) rfl (Or.inr ⟨9, rfl, show 10 ≤ _ from Nat.le_of_ble_eq_true rfl, (by decide)⟩) (fun _ => rfl) (fun _ => rfl) (show 11 ≤ _ from Nat.le_of_ble_eq_true rfl) dX6_init_77 ?_
  refine n_nrm [.inr (6, [.ref (93), .ref (94), .ref (95), .ref (96), .ref (97), iv 0, iv 0, .ref (98), .ref (99), .ref (100), .ref (101), .null, .null, .null, .null, iv 0, iv 0, iv 0, iv 0, iv 0, iv 0, iv 0, iv 0, .null, .null, iv 0]), zI 67, zI 67, zI 536, zI 134, zZ 2, zL 49, zI 4374, zI 4374, zI 4374] rfl ?_
  refine g_aload0 dX6_init_80 ?_
  refine g_ldc (v := Int32.ofInt (174960)) kc_X6_39 dX6_init_81 ?_
  refine n_newI (N := 174960) (q := 102) hn rfl rfl (by decide) (by decide) ⟨bL_of rfl, bS_of rfl⟩ (by decide) dX6_init_83 (by decide) (by decide) ?_
  refine n_nrm [.inr (6, [.ref (93), .ref (94), .ref (95), .ref (96), .ref (97), iv 0, iv 0, .ref (98), .ref (99), .ref (100), .ref (101), .null, .null, .null, .null, iv 0, iv 0, iv 0, iv 0, iv 0, iv 0, iv 0, iv 0, .null, .null, iv 0]), zI 67, zI 67, zI 536, zI 134, zZ 2, zL 49, zI 4374, zI 4374, zI 4374, zI 174960] rfl ?_
  refine n_putF (i := 0) hn rfl rfl ff_X6_40 (fun _ _ _ h => by cases h; rfl) rfl (Or.inr ⟨10, rfl, show 11 ≤ _ from Nat.le_of_ble_eq_true rfl, (by decide)⟩) (fun _ => rfl) (fun _ => rfl) (show 12 ≤ _ from Nat.le_of_ble_eq_true rfl) dX6_init_85 ?_
  refine n_nrm [.inr (6, [.ref (93), .ref (94), .ref (95), .ref (96), .ref (97), iv 0, iv 0, .ref (98), .ref (99), .ref (100), .ref (101), .ref (102), .null, .null, .null, iv 0, iv 0, iv 0, iv 0, iv 0, iv 0, iv 0, iv 0, .null, .null, iv 0]), zI 67, zI 67, zI 536, zI 134, zZ 2, zL 49, zI 4374, zI 4374, zI 4374, zI 174960] rfl ?_
  refine g_aload0 dX6_init_88 ?_
  refine g_sipush dX6_init_89 (by decide) ?_
  refine n_newI (N := 4374) (q := 103) hn rfl rfl (by decide) (by decide) ⟨bL_of rfl, bS_of rfl⟩ (by decide) dX6_init_92 (by decide) (by decide) ?_
  refine n_nrm [.inr (6, [.ref (93), .ref (94), .ref (95), .ref (96), .ref (97), iv 0, iv 0, .ref (98), .ref (99), .ref (100), .ref (101), .ref (102), .null, .null, .null, iv 0, iv 0, iv 0, iv 0, iv 0, iv 0, iv 0, iv 0, .null, .null, iv 0]), zI 67, zI 67, zI 536, zI 134, zZ 2, zL 49, zI 4374, zI 4374, zI 4374, zI 174960, zI 4374] rfl ?_
  refine n_putF (i := 0) hn rfl rfl ff_X6_43 (fun _ _ _ h => by cases h; rfl) rfl (Or.inr ⟨11, rfl, show 12 ≤ _ from Nat.le_of_ble_eq_true rfl, (by decide)⟩) (fun _ => rfl) (fun _ => rfl) (show 13 ≤ _ from Nat.le_of_ble_eq_true rfl) dX6_init_94 ?_
  refine n_nrm [.inr (6, [.ref (93), .ref (94), .ref (95), .ref (96), .ref (97), iv 0, iv 0, .ref (98), .ref (99), .ref (100), .ref (101), .ref (102), .ref (103), .null, .null, iv 0, iv 0, iv 0, iv 0, iv 0, iv 0, iv 0, iv 0, .null, .null, iv 0]), zI 67, zI 67, zI 536, zI 134, zZ 2, zL 49, zI 4374, zI 4374, zI 4374, zI 174960, zI 4374] rfl ?_
  refine g_aload0 dX6_init_97 ?_
  refine g_bipush dX6_init_98 (by decide) ?_
  refine n_newI (N := 40) (q := 104) hn rfl rfl (by decide) (by decide) ⟨bL_of rfl, bS_of rfl⟩ (by decide) dX6_init_100 (by decide) (by decide) ?_
  refine n_nrm [.inr (6, [.ref (93), .ref (94), .ref (95), .ref (96), .ref (97), iv 0, iv 0, .ref (98), .ref (99), .ref (100), .ref (101), .ref (102), .ref (103), .null, .null, iv 0, iv 0, iv 0, iv 0, iv 0, iv 0, iv 0, iv 0, .null, .null, iv 0]), zI 67, zI 67, zI 536, zI 134, zZ 2, zL 49, zI 4374, zI 4374, zI 4374, zI 174960, zI 4374, zI 40] rfl ?_
  refine n_putF (i := 0) hn rfl rfl ff_X6_46 (fun _ _ _ h => by cases h; rfl) rfl (Or.inr ⟨12, rfl, show 13 ≤ _ from Nat.le_of_ble_eq_true rfl, (by decide)⟩) (fun _ => rfl) (fun _ => rfl) (show 14 ≤ _ from Nat.le_of_ble_eq_true rfl) dX6_init_102 ?_
  refine n_nrm [.inr (6, [.ref (93), .ref (94), .ref (95), .ref (96), .ref (97), iv 0, iv 0, .ref (98), .ref (99), .ref (100), .ref (101), .ref (102), .ref (103), .ref (104), .null, iv 0, iv 0, iv 0, iv 0, iv 0, iv 0, iv 0, iv 0, .null, .null, iv 0]), zI 67, zI 67, zI 536, zI 134, zZ 2, zL 49, zI 4374, zI 4374, zI 4374, zI 174960, zI 4374, zI 40] rfl ?_
  refine g_aload0 dX6_init_105 ?_
  refine g_sipush dX6_init_106 (by decide) ?_
  refine n_newI (N := 400) (q := 105) hn rfl rfl (by decide) (by decide) ⟨bL_of rfl, bS_of rfl⟩ (by decide) dX6_init_109 (by decide) (by decide) ?_
  refine n_nrm [.inr (6, [.ref (93), .ref (94), .ref (95), .ref (96), .ref (97), iv 0, iv 0, .ref (98), .ref (99), .ref (100), .ref (101), .ref (102), .ref (103), .ref (104), .null, iv 0, iv 0, iv 0, iv 0, iv 0, iv 0, iv 0, iv 0, .null, .null, iv 0]), zI 67, zI 67, zI 536, zI 134, zZ 2, zL 49, zI 4374, zI 4374, zI 4374, zI 174960, zI 4374, zI 40, zI 400] rfl ?_
  refine n_putF (i := 0) hn rfl rfl ff_X6_49 (fun _ _ _ h => by cases h; rfl) rfl (Or.inr ⟨13, rfl, show 14 ≤ _ from Nat.le_of_ble_eq_true rfl, (by decide)⟩) (fun _ => rfl) (fun _ => rfl) (show 15 ≤ _ from Nat.le_of_ble_eq_true rfl) dX6_init_111 ?_
  refine n_nrm [.inr (6, [.ref (93), .ref (94), .ref (95), .ref (96), .ref (97), iv 0, iv 0, .ref (98), .ref (99), .ref (100), .ref (101), .ref (102), .ref (103), .ref (104), .ref (105), iv 0, iv 0, iv 0, iv 0, iv 0, iv 0, iv 0, iv 0, .null, .null, iv 0]), zI 67, zI 67, zI 536, zI 134, zZ 2, zL 49, zI 4374, zI 4374, zI 4374, zI 174960, zI 4374, zI 40, zI 400] rfl ?_
  refine g_aload0 dX6_init_114 ?_
  refine g_iconst dX6_init_115 ?_
  refine n_put (i := 0) hn rfl rfl fl_X6_52 (fun _ _ _ h => by cases h; rfl) (Or.inl ⟨_, rfl⟩) (fun _ => rfl) (fun _ => rfl) (show 22 ≤ _ from Nat.le_of_ble_eq_true rfl) dX6_init_116 ?_
  refine n_nrm [.inr (6, [.ref (93), .ref (94), .ref (95), .ref (96), .ref (97), iv 0, iv 0, .ref (98), .ref (99), .ref (100), .ref (101), .ref (102), .ref (103), .ref (104), .ref (105), iv 0, iv 0, iv 0, iv 0, iv 0, iv 0, iv (-1), iv 0, .null, .null, iv 0]), zI 67, zI 67, zI 536, zI 134, zZ 2, zL 49, zI 4374, zI 4374, zI 4374, zI 174960, zI 4374, zI 40, zI 400] rfl ?_
  refine g_aload0 dX6_init_119 ?_
  refine g_iconst dX6_init_120 ?_
  refine n_newI (N := 4) (q := 106) hn rfl rfl (by decide) (by decide) ⟨bL_of rfl, bS_of rfl⟩ (by decide) dX6_init_121 (by decide) (by decide) ?_
  refine n_nrm [.inr (6, [.ref (93), .ref (94), .ref (95), .ref (96), .ref (97), iv 0, iv 0, .ref (98), .ref (99), .ref (100), .ref (101), .ref (102), .ref (103), .ref (104), .ref (105), iv 0, iv 0, iv 0, iv 0, iv 0, iv 0, iv (-1), iv 0, .null, .null, iv 0]), zI 67, zI 67, zI 536, zI 134, zZ 2, zL 49, zI 4374, zI 4374, zI 4374, zI 174960, zI 4374, zI 40, zI 400, zI 4] rfl ?_
  refine n_putF (i := 0) hn rfl rfl ff_X6_56 (fun _ _ _ h => by cases h; rfl) rfl (Or.inr ⟨14, rfl, show 15 ≤ _ from Nat.le_of_ble_eq_true rfl, (by decide)⟩) (fun _ => rfl) (fun _ => rfl) (show 24 ≤ _ from Nat.le_of_ble_eq_true rfl) dX6_init_123 ?_
  refine n_nrm [.inr (6, [.ref (93), .ref (94), .ref (95), .ref (96), .ref (97), iv 0, iv 0, .ref (98), .ref (99), .ref (100), .ref (101), .ref (102), .ref (103), .ref (104), .ref (105), iv 0, iv 0, iv 0, iv 0, iv 0, iv 0, iv (-1), iv 0, .ref (106), .null, iv 0]), zI 67, zI 67, zI 536, zI 134, zZ 2, zL 49, zI 4374, zI 4374, zI 4374, zI 174960, zI 4374, zI 40, zI 400, zI 4] rfl ?_
  refine g_aload0 dX6_init_126 ?_
  refine g_sipush dX6_init_127 (by decide) ?_
  refine n_newI (N := 200) (q := 107) hn rfl rfl (by decide) (by decide) ⟨bL_of rfl, bS_of rfl⟩ (by decide) dX6_init_130 (by decide) (by decide) ?_
  refine n_nrm [.inr (6, [.ref (93), .ref (94), .ref (95), .ref (96), .ref (97), iv 0, iv 0, .ref (98), .ref (99), .ref (100), .ref (101), .ref (102), .ref (103), .ref (104), .ref (105), iv 0, iv 0, iv 0, iv 0, iv 0, iv 0, iv (-1), iv 0, .ref (106), .null, iv 0]), zI 67, zI 67, zI 536, zI 134, zZ 2, zL 49, zI 4374, zI 4374, zI 4374, zI 174960, zI 4374, zI 40, zI 400, zI 4, zI 200] rfl ?_
  refine n_putF (i := 0) hn rfl rfl ff_X6_59 (fun _ _ _ h => by cases h; rfl) rfl (Or.inr ⟨15, rfl, show 16 ≤ _ from Nat.le_of_ble_eq_true rfl, (by decide)⟩) (fun _ => rfl) (fun _ => rfl) (show 25 ≤ _ from Nat.le_of_ble_eq_true rfl) dX6_init_132 ?_
  refine n_nrm [.inr (6, [.ref (93), .ref (94), .ref (95), .ref (96), .ref (97), iv 0, iv 0, .ref (98), .ref (99), .ref (100), .ref (101), .ref (102), .ref (103), .ref (104), .ref (105), iv 0, iv 0, iv 0, iv 0, iv 0, iv 0, iv (-1), iv 0, .ref (106), .ref (107), iv 0]), zI 67, zI 67, zI 536, zI 134, zZ 2, zL 49, zI 4374, zI 4374, zI 4374, zI 174960, zI 4374, zI 40, zI 400, zI 4, zI 200] rfl ?_
  refine g_aload0 dX6_init_135 ?_
  refine n_get (i := 0) hn rfl rfl fl_X6_7 rfl dX6_init_136 ?_
  refine n_beg (i := 1) hn rfl rfl lk_X6_62 rfl dX6_init_139 rfl ?_
  refine n_nrm [.inr (6, [.ref (93), .ref (94), .ref (95), .ref (96), .ref (97), iv 0, iv 0, .ref (98), .ref (99), .ref (100), .ref (101), .ref (102), .ref (103), .ref (104), .ref (105), iv 0, iv 0, iv 0, iv 0, iv 0, iv 0, iv (-1), iv 0, .ref (106), .ref (107), iv 0]), .inl (0, 67, .inl bgF), zI 67, zI 536, zI 134, zZ 2, zL 49, zI 4374, zI 4374, zI 4374, zI 174960, zI 4374, zI 40, zI 400, zI 4, zI 200] rfl ?_
  refine g_aload0 dX6_init_142 ?_
  refine n_get (i := 0) hn rfl rfl fl_X6_7 rfl dX6_init_143 ?_
  refine g_iconst dX6_init_146 ?_
  refine g_sipush dX6_init_147 (by decide) ?_
  refine n_iast (i := 1) hn rfl rfl ⟨by decide, by decide⟩ (by decide) dX6_init_150 ?_
  refine n_nrm [.inr (6, [.ref (93), .ref (94), .ref (95), .ref (96), .ref (97), iv 0, iv 0, .ref (98), .ref (99), .ref (100), .ref (101), .ref (102), .ref (103), .ref (104), .ref (105), iv 0, iv 0, iv 0, iv 0, iv 0, iv 0, iv (-1), iv 0, .ref (106), .ref (107), iv 0]), .inl (0, 67, .inl (upd bgF 0 (Int32.ofInt 300))), zI 67, zI 536, zI 134, zZ 2, zL 49, zI 4374, zI 4374, zI 4374, zI 174960, zI 4374, zI 40, zI 400, zI 4, zI 200] rfl ?_
  refine g_aload0 dX6_init_151 ?_
  refine n_get (i := 0) hn rfl rfl fl_X6_7 rfl dX6_init_152 ?_
  refine g_iconst dX6_init_155 ?_
  refine g_bipush dX6_init_156 (by decide) ?_
  refine n_iast (i := 1) hn rfl rfl ⟨by decide, by decide⟩ (by decide) dX6_init_158 ?_
  refine n_nrm [.inr (6, [.ref (93), .ref (94), .ref (95), .ref (96), .ref (97), iv 0, iv 0, .ref (98), .ref (99), .ref (100), .ref (101), .ref (102), .ref (103), .ref (104), .ref (105), iv 0, iv 0, iv 0, iv 0, iv 0, iv 0, iv (-1), iv 0, .ref (106), .ref (107), iv 0]), .inl (0, 67, .inl (upd (upd bgF 0 (Int32.ofInt 300)) 1 (Int32.ofInt 12))), zI 67, zI 536, zI 134, zZ 2, zL 49, zI 4374, zI 4374, zI 4374, zI 174960, zI 4374, zI 40, zI 400, zI 4, zI 200] rfl ?_
  refine g_aload0 dX6_init_159 ?_
  refine n_get (i := 0) hn rfl rfl fl_X6_7 rfl dX6_init_160 ?_
  refine g_iconst dX6_init_163 ?_
  refine g_bipush dX6_init_164 (by decide) ?_
  refine n_iast (i := 1) hn rfl rfl ⟨by decide, by decide⟩ (by decide) dX6_init_166 ?_
  refine n_nrm [.inr (6, [.ref (93), .ref (94), .ref (95), .ref (96), .ref (97), iv 0, iv 0, .ref (98), .ref (99), .ref (100), .ref (101), .ref (102), .ref (103), .ref (104), .ref (105), iv 0, iv 0, iv 0, iv 0, iv 0, iv 0, iv (-1), iv 0, .ref (106), .ref (107), iv 0]), .inl (0, 67, .inl (upd (upd (upd bgF 0 (Int32.ofInt 300)) 1 (Int32.ofInt 12)) 2 (Int32.ofInt 30))), zI 67, zI 536, zI 134, zZ 2, zL 49, zI 4374, zI 4374, zI 4374, zI 174960, zI 4374, zI 40, zI 400, zI 4, zI 200] rfl ?_
  exact g_return rfl dX6_init_167 ⟨rfl, rfl⟩
end C91
