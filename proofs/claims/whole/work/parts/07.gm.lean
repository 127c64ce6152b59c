/-! Fields, arrays, returns, calls over the mini memory. -/
section GM7
theorem rN_lt {g : gT} {ν : Nat → Nat} {n : Nat} (h : n < KB) : rN g ν n = ν n := if_pos h
theorem rN_ge {g : gT} {ν : Nat → Nat} {n : Nat} : rN g ν (KB + n) = gk g n := by
  unfold rN
  rw [if_neg (Nat.not_lt.mpr (Nat.le_add_right _ _)), Nat.add_sub_cancel_left]
theorem RM.lt {g : gT} {ν : Nat → Nat} {M : mM} {H : Heap} (h : RM g ν M H) {n : Nat} {c : mC} (hn : M[n]? = some c) : n < KB := Nat.lt_of_lt_of_le (List.getElem?_eq_some_iff.mp hn).1 h.2.2.2
theorem kp_trans {k k2 n0 n1 : Nat} {ν0 ν ν' : Nat → Nat} (h : kp k ν0 ν n0) (h2 : kp k2 ν ν' n1) (hk : k2 ≤ k) (hn : n0 ≤ n1) : kp k ν0 ν' n0 := by
  rcases k2 with _ | _ | k2
  · rw [show ν' = ν from h2]; exact h
  · rcases k with _ | _ | k
    · omega
    · intro n hn'; rw [h2 n hn']; exact h n hn'
    · intro n h1 h3; rw [h2 n h3]; exact h n h1 h3
  · rcases k with _ | _ | k
    · omega
    · omega
    · intro n h1 h3; rw [h2 n (Nat.lt_of_lt_of_le h1 hn) h3]; exact h n h1 h3
theorem kp_mono {k n0 n1 : Nat} {ν0 ν : Nat → Nat} (h : kp k ν0 ν n1) (hn : n0 ≤ n1) : kp k ν0 ν n0 := by
  rcases k with _ | _ | k
  · exact h
  · exact h
  · intro n h1 h3; exact h n (Nat.lt_of_lt_of_le h1 hn) h3
theorem kp_at {k n1 n : Nat} {ν ν' : Nat → Nat} (h : kp k ν ν' n1) (hn : n < n1) (ho : ownr n = none) : ν' n = ν n := by
  rcases k with _ | _ | k
  · rw [show ν' = ν from h]
  · exact h n ho
  · exact h n hn ho
def okO (len : Nat) : Option Value → Prop
  | some v => okV len v
  | none => True
def okS (len : Nat) : List Value → Prop
  | [] => True
  | v :: t => okV len v ∧ okS len t
def okL (len : Nat) : List (Option Value) → Prop
  | [] => True
  | v :: t => okO len v ∧ okL len t
theorem okS_mem {len : Nat} {st : List Value} (h : okS len st) : ∀ v ∈ st, okV len v := by
  induction st with
  | nil => intro v hv; cases hv
  | cons a t ih =>
    intro v hv
    rcases List.mem_cons.mp hv with rfl | h1
    · exact h.1
    · exact ih h.2 v h1
theorem okL_mem {len : Nat} {L : List (Option Value)} (h : okL len L) : ∀ v, some v ∈ L → okV len v := by
  induction L with
  | nil => intro v hv; cases hv
  | cons a t ih =>
    intro v hv
    rcases List.mem_cons.mp hv with h1 | h1
    · have := h.1; rw [← h1] at this; exact this
    · exact ih h.2 v h1
theorem rV_kp {g : gT} {k len : Nat} {ν ν' : Nat → Nat} (h : kp k ν ν' len) {v : Value} (hv : okV len v) : rV g ν' v = rV g ν v :=
  rV_eq fun n hn hkb => by
    subst hn
    exact kp_at h (hv.1.resolve_right (Nat.not_le.mpr hkb)) hv.2
theorem st_kp {g : gT} {k len : Nat} {ν ν' : Nat → Nat} (h : kp k ν ν' len) {st : List Value} (hs : okS len st) : st.map (rV g ν') = st.map (rV g ν) :=
  List.map_congr_left fun v hv => rV_kp h (okS_mem hs v hv)
theorem L_kp {g : gT} {k len : Nat} {ν ν' : Nat → Nat} (h : kp k ν ν' len) {L : List (Option Value)} (hs : okL len L) : rL g ν' (lvE L) = rL g ν (lvE L) :=
  List.map_congr_left fun q hq => by
    obtain ⟨i, v⟩ := q
    have h1 := mem_lvE.mp hq
    show (i, rV g ν' v) = (i, rV g ν v)
    rw [rV_kp h (okL_mem hs v (List.mem_of_getElem? h1))]
/-- words of the list -/
theorem t_of {w : Cond} (h : w ∈ tables_1) (hg : goodWord w = true) : w ∈ WS := List.mem_filter.mpr ⟨List.mem_append_right _ h, hg⟩
theorem s_of {w : Cond} (h : w ∈ k2_sels lw_privs) (hg : goodWord w = true) : w ∈ WS := List.mem_filter.mpr ⟨List.mem_append_left _ h, hg⟩
theorem WS_good : GoodIn WS WS := fun w h => ⟨h, good_of_word (List.mem_filter.mp h).2⟩
theorem NW_of {w : Cond} (h : w ∈ tables_1) (hg : isNest w = true) : w ∈ NW := List.mem_filter.mpr ⟨h, hg⟩
def FL (own : String) (idx ci k : Nat) : Prop := ∃ C T N, CL[ci]? = some (C, T, N) ∧ k < N ∧ (T k).1 = C ∧ (Cond.fieldLink own idx C (T k).2.1 (T k).2.2.1 ∈ WS ∨ ∃ host, Cond.fieldLinkNest own idx C (T k).2.1 (T k).2.2.1 host ∈ NW)
theorem uws_ok : ∀ q ∈ CL, ∀ w ∈ u_ws q.1 q.2.1 q.2.2, w ∈ WS := by
  have h : ∀ q ∈ CL, ∀ w ∈ u_ws q.1 q.2.1 q.2.2, w ∈ tables_1 ∧ goodWord w = true := by decide +kernel
  exact fun q hq w hw => t_of (h q hq w hw).1 (h q hq w hw).2
theorem CL_nm : ∀ q ∈ CL, ∀ a, a < q.2.2 → ∀ b, b < q.2.2 → a ≠ b → (q.2.1 a).2.1 ≠ (q.2.1 b).2.1 := by decide +kernel
def ty_of (ci : Nat) : Nat → FieldType := match ci with | 0 => tyX0 | 1 => tyX1 | 2 => tyX2 | 3 => tyX3 | 4 => tyX4 | 5 => tyX5 | _ => tyX6
theorem ty_ok {ci : Nat} {C : String} {T : u_T} {N : Nat} (h : CL[ci]? = some (C, T, N)) : ∀ k, k < N → parseFieldDescriptor (T k).2.2.1 = some (ty_of ci k) := by
  rcases ci with _ | _ | _ | _ | _ | _ | _ | ci
  · cases h; exact tyX0_ok
  · cases h; exact tyX1_ok
  · cases h; exact tyX2_ok
  · cases h; exact tyX3_ok
  · cases h; exact tyX4_ok
  · cases h; exact tyX5_ok
  · cases h; exact tyX6_ok
  · simp at h
variable {g : gT} {y : yT} {k n : Nat} {Φ : mO → mM → Prop} {pc : Nat} {L : List (Option Value)} {st : List Value} {M : mM}
theorem g_get {o ci idx kf : Nat} {fs : List Value} {v : Value} (hf : FL (yN y).cls idx ci kf) (hM0 : M[o]? = some (.inr (ci, fs))) (hv : fs[kf]? = some v) (hd : decode (yB y) pc = .ok (.getfield idx, 3)) (h : GW g y k n Φ (pc + 3) L (v :: st) M) : GW g y k n Φ pc L (.ref o :: st) M := by
  intro p e R s m args below meth c H locs cells slots ν ν0 n0 ls C hc hs hM hk hn hS hl
  obtain ⟨Cn, T, N, hC, hkN, hT, hlk⟩ := hf
  have hin : ∀ w ∈ u_ws Cn T N, w ∈ WS := uws_ok _ (List.mem_of_getElem? hC)
  have hat := rW_at (g := g) (ν := ν) hM0
  have hv2 : (fs.map (rV g ν))[kf]? = some (rV g ν v) := by rw [List.getElem?_map, hv]; rfl
  have hG := C.2.2.2.2.2.2.2.2.2.2.2
  have k1 := h p e R s m args below meth c H locs cells slots ν ν0 n0 ls C hc hs hM hk hn hS hl
  rw [show (Value.ref o :: st).map (rV g ν) = .ref (ν o) :: st.map (rV g ν) from by rw [List.map_cons]; show Value.ref (rN g ν o) :: _ = _; rw [rN_lt (hM.lt hM0)]]
  rcases hlk with hlk | ⟨host, hlk⟩
  · exact va_get C.1 C.2.1 C.2.2.2.2.1 hin C.2.2.2.1 hG.1 hM.1 o hat hC kf hkN (C.2.2.2.2.1 _ hlk) (fun x hx => by rw [hT] at hx; exact hx) hv2 hd k1
  · exact va_getN C.1 C.2.1 C.2.2.2.2.1 hin C.2.2.2.1 hG.1 hM.1 o hat hC kf hkN (va_Nw.use rfl (hG.2.2.1 _ hlk)) (fun x hx => by rw [hT] at hx; exact hx) hv2 hd k1
theorem okM_set {M : mM} {o : Nat} {c c0 : mC} (h : okM M) (h0 : M[o]? = some c0) (hc : okC o M.length c) : okM (M.set o c) := by
  intro a c' ha
  rw [List.length_set]
  rw [List.getElem?_set] at ha
  by_cases e : o = a
  · subst e
    rw [if_pos rfl, if_pos (List.getElem?_eq_some_iff.mp h0).1] at ha
    cases ha
    exact hc
  · rw [if_neg e] at ha
    exact h a c' ha
theorem RM_set {g : gT} {ν : Nat → Nat} {M : mM} {H H1 : Heap} {o : Nat} {c c0 : mC} (h : RM g ν M H) (h0 : M[o]? = some c0) (hc : okC o M.length c) (hP : va_P (gD g) CL ((rW g ν M).set o (ν o, rC g ν c)) H1) (hD : va_D (gA g) ((rW g ν M).set o (ν o, rC g ν c))) : RM g ν (M.set o c) H1 := by
  refine ⟨by rw [rW_set]; exact hP, by rw [rW_set]; exact hD, okM_set h.2.2.1 h0 hc, by rw [List.length_set]; exact h.2.2.2⟩
theorem g_put {o ci idx kf : Nat} {fs : List Value} {v : Value} (hf : FL (yN y).cls idx ci kf) (hfin : ∀ C T N, CL[ci]? = some (C, T, N) → (T kf).2.2.2 = false) (hM0 : M[o]? = some (.inr (ci, fs))) (hv : cV M.length v = true ∧ ∀ q ow, v = .ref q → ownr q = some ow → ow = (o, kf)) (hnar : ∀ ν, narrow (ty_of ci kf) (rV g ν v) = rV g ν v) (hfit : ∀ ν, fits (ty_of ci kf) (rV g ν v) = true) (hl0 : kf < fs.length) (hd : decode (yB y) pc = .ok (.putfield idx, 3)) (h : GW g y k n Φ (pc + 3) L st (M.set o (.inr (ci, fs.set kf v)))) : GW g y k n Φ pc L (v :: .ref o :: st) M := by
  intro p e R s m args below meth c H locs cells slots ν ν0 n0 ls C hc hs hM hk hn hS hl
  obtain ⟨Cn, T, N, hC, hkN, hT, hlk⟩ := hf
  have hin : ∀ w ∈ u_ws Cn T N, w ∈ WS := uws_ok _ (List.mem_of_getElem? hC)
  have hat := rW_at (g := g) (ν := ν) hM0
  have hG := C.2.2.2.2.2.2.2.2.2.2.2
  have hok : okC o M.length (.inr (ci, fs.set kf v)) := by
    intro k' v' hk'
    rw [List.getElem?_set] at hk'
    by_cases e : kf = k'
    · subst e
      rw [if_pos rfl, if_pos hl0] at hk'
      cases hk'
      exact hv
    · rw [if_neg e] at hk'
      exact hM.2.2.1 o _ hM0 k' v' hk'
  have k1 : ∀ (H1 : Heap) (locs1 : List Loc), va_P (gD g) CL ((rW g ν M).set o (ν o, .inr (ci, (fs.map (rV g ν)).set kf (rV g ν v)))) H1 → va_D (gA g) ((rW g ν M).set o (ν o, .inr (ci, (fs.map (rV g ν)).set kf (rV g ν v)))) → va_S (gA g) s.heap H1 locs1 → W p (gL g) e R s m args below meth c H1 locs1 cells slots (vx_MQ below (QC g y ν0 n0 Φ) (XC g y ν0 n0 Φ) args s R.cells R.slots (gA g)) (F0 m (pc + 3) ls (st.map (rV g ν))) := by
    intro H1 locs1 hP1 hD1 hS1
    have e1 : (Sum.inr (ci, (fs.map (rV g ν)).set kf (rV g ν v)) : va_E) = rC g ν (.inr (ci, fs.set kf v)) := by
      show _ = Sum.inr (ci, (fs.set kf v).map (rV g ν))
      rw [List.map_set]
    rw [e1] at hP1 hD1
    exact h p e R s m args below meth c H1 locs1 cells slots ν ν0 n0 ls C hc hs (RM_set hM hM0 hok hP1 hD1) hk (by rw [List.length_set]; exact hn) hS1 hl
  rw [show (v :: Value.ref o :: st).map (rV g ν) = rV g ν v :: .ref (ν o) :: st.map (rV g ν) from by rw [List.map_cons, List.map_cons]; show _ :: Value.ref (rN g ν o) :: _ = _; rw [rN_lt (hM.lt hM0)]]
  rcases hlk with hlk | ⟨host, hlk⟩
  · exact va_put C.1 C.2.1 C.2.2.2.2.1 hin (ty_of ci) (ty_ok hC) (CL_nm _ (List.mem_of_getElem? hC)) C.2.2.2.1 hG.1 hM.1 hM.2.1 hS o hat hC kf hkN (C.2.2.2.2.1 _ hlk) (fun x hx => by rw [hT] at hx; exact hx) (hfin _ _ _ hC) (ty_ok hC kf hkN) (hnar ν) (hfit ν) (by rw [List.length_map]; exact hl0) hd k1
  · exact va_putN C.1 C.2.1 C.2.2.2.2.1 hin (ty_of ci) (ty_ok hC) (CL_nm _ (List.mem_of_getElem? hC)) C.2.2.2.1 hG.1 hM.1 hM.2.1 hS o hat hC kf hkN (va_Nw.use rfl (hG.2.2.1 _ hlk)) (fun x hx => by rw [hT] at hx; exact hx) (hfin _ _ _ hC) (ty_ok hC kf hkN) (hnar ν) (hfit ν) (by rw [List.length_map]; exact hl0) hd k1
/-- a final field, in the constructor -/
theorem g_putF {o ci idx kf : Nat} {fs : List Value} {v : Value} (hf : ∃ C T N, CL[ci]? = some (C, T, N) ∧ kf < N ∧ (T kf).1 = C ∧ C = (yN y).cls ∧ Cond.fieldLink (yN y).cls idx C (T kf).2.1 (T kf).2.2.1 ∈ WS) (hfin : ∀ C T N, CL[ci]? = some (C, T, N) → (T kf).2.2.2 = true) (hnm : (yN y).name = "<init>") (hM0 : M[o]? = some (.inr (ci, fs))) (hv : cV M.length v = true ∧ ∀ q ow, v = .ref q → ownr q = some ow → ow = (o, kf)) (hnar : ∀ ν, narrow (ty_of ci kf) (rV g ν v) = rV g ν v) (hfit : ∀ ν, fits (ty_of ci kf) (rV g ν v) = true) (hl0 : kf < fs.length) (hd : decode (yB y) pc = .ok (.putfield idx, 3)) (h : GW g y k n Φ (pc + 3) L st (M.set o (.inr (ci, fs.set kf v)))) : GW g y k n Φ pc L (v :: .ref o :: st) M := by
  intro p e R s m args below meth c H locs cells slots ν ν0 n0 ls C hc hs hM hk hn hS hl
  obtain ⟨Cn, T, N, hC, hkN, hT, hown, hlk⟩ := hf
  have hin : ∀ w ∈ u_ws Cn T N, w ∈ WS := uws_ok _ (List.mem_of_getElem? hC)
  have hat := rW_at (g := g) (ν := ν) hM0
  have hG := C.2.2.2.2.2.2.2.2.2.2.2
  have hok : okC o M.length (.inr (ci, fs.set kf v)) := by
    intro k' v' hk'
    rw [List.getElem?_set] at hk'
    by_cases e : kf = k'
    · subst e
      rw [if_pos rfl, if_pos hl0] at hk'
      cases hk'
      exact hv
    · rw [if_neg e] at hk'
      exact hM.2.2.1 o _ hM0 k' v' hk'
  have k1 : ∀ (H1 : Heap) (locs1 : List Loc), va_P (gD g) CL ((rW g ν M).set o (ν o, .inr (ci, (fs.map (rV g ν)).set kf (rV g ν v)))) H1 → va_D (gA g) ((rW g ν M).set o (ν o, .inr (ci, (fs.map (rV g ν)).set kf (rV g ν v)))) → va_S (gA g) s.heap H1 locs1 → W p (gL g) e R s m args below meth c H1 locs1 cells slots (vx_MQ below (QC g y ν0 n0 Φ) (XC g y ν0 n0 Φ) args s R.cells R.slots (gA g)) (F0 m (pc + 3) ls (st.map (rV g ν))) := by
    intro H1 locs1 hP1 hD1 hS1
    have e1 : (Sum.inr (ci, (fs.map (rV g ν)).set kf (rV g ν v)) : va_E) = rC g ν (.inr (ci, fs.set kf v)) := by
      show _ = Sum.inr (ci, (fs.set kf v).map (rV g ν))
      rw [List.map_set]
    rw [e1] at hP1 hD1
    exact h p e R s m args below meth c H1 locs1 cells slots ν ν0 n0 ls C hc hs (RM_set hM hM0 hok hP1 hD1) hk (by rw [List.length_set]; exact hn) hS1 hl
  rw [show (v :: Value.ref o :: st).map (rV g ν) = rV g ν v :: .ref (ν o) :: st.map (rV g ν) from by rw [List.map_cons, List.map_cons]; show _ :: Value.ref (rN g ν o) :: _ = _; rw [rN_lt (hM.lt hM0)]]
  exact va_putF C.1 C.2.1 C.2.2.2.2.1 hin (ty_of ci) (ty_ok hC) (CL_nm _ (List.mem_of_getElem? hC)) C.2.2.2.1 hG.1 hM.1 hM.2.1 hS o hat hC kf hkN (C.2.2.2.2.1 _ hlk) (fun x hx => by rw [hT] at hx; exact hx) (hfin _ _ _ hC) (by rw [C.2.2.2.2.2.2.2.1, hnm]) (by rw [hT, hown]) (ty_ok hC kf hkN) (hnar ν) (hfit ν) (by rw [List.length_map]; exact hl0) hd k1
theorem in_ix {i : Int} {N : Nat} (h : 0 ≤ i ∧ i < N) (hN : i ≤ 2147483647) : vp_in (Int32.ofInt i) N := by
  have e1 : (Int32.ofInt i).toInt = i := toI ⟨by omega, hN⟩
  rintro (h1 | h1)
  · rw [Int32.lt_iff_toInt_lt, e1] at h1
    simp at h1
    omega
  · have e2 : (Int32.ofInt i).toNatClampNeg = i.toNat := by unfold Int32.toNatClampNeg; rw [e1]
    rw [e2] at h1
    omega
theorem ix_nat {i : Int} (h : 0 ≤ i) (hN : i ≤ 2147483647) : (Int32.ofInt i).toNatClampNeg = i.toNat := by
  unfold Int32.toNatClampNeg
  rw [toI ⟨by omega, hN⟩]
theorem st_ref {g : gT} {ν : Nat → Nat} {M : mM} {H : Heap} (hM : RM g ν M H) {o : Nat} {c : mC} (h0 : M[o]? = some c) : rV g ν (.ref o) = .ref (ν o) := by
  show Value.ref (rN g ν o) = _
  rw [rN_lt (hM.lt h0)]
theorem g_iald {o N : Nat} {f : Nat → Int32} {i : Int} (hM0 : M[o]? = some (.inl (0, N, .inl f))) (hi : 0 ≤ i ∧ i < N) (hN : i ≤ 2147483647) (hd : decode (yB y) pc = .ok (.iaload, 1)) (h : GW g y k n Φ (pc + 1) L (.int (f i.toNat) :: st) M) : GW g y k n Φ pc L (iv i :: .ref o :: st) M := by
  intro p e R s m args below meth c H locs cells slots ν ν0 n0 ls C hc hs hM hk hn hS hl
  have hat : (rW g ν M)[o]? = some (ν o, .inl (gC g 0, N, .inl f)) := rW_at (g := g) (ν := ν) hM0
  have hG := C.2.2.2.2.2.2.2.2.2.2.2
  have k1 := h p e R s m args below meth c H locs cells slots ν ν0 n0 ls C hc hs hM hk hn hS hl
  rw [List.map_cons, List.map_cons, st_ref hM hM0]
  exact va_iald C.1 C.2.1 hG.1 hM.1 o 0 hat rfl (in_ix hi hN) hd (by rw [ix_nat hi.1 hN]; exact k1)
theorem g_iast {o N : Nat} {f : Nat → Int32} {i : Int} {x : Int32} (hM0 : M[o]? = some (.inl (0, N, .inl f))) (hi : 0 ≤ i ∧ i < N) (hN : i ≤ 2147483647) (hd : decode (yB y) pc = .ok (.iastore, 1)) (h : GW g y k n Φ (pc + 1) L st (M.set o (.inl (0, N, .inl (upd f i.toNat x))))) : GW g y k n Φ pc L (.int x :: iv i :: .ref o :: st) M := by
  intro p e R s m args below meth c H locs cells slots ν ν0 n0 ls C hc hs hM hk hn hS hl
  have hat : (rW g ν M)[o]? = some (ν o, .inl (gC g 0, N, .inl f)) := rW_at (g := g) (ν := ν) hM0
  have hG := C.2.2.2.2.2.2.2.2.2.2.2
  rw [List.map_cons, List.map_cons, List.map_cons, st_ref hM hM0]
  refine va_iast C.1 C.2.1 hG.1 hM.1 hM.2.1 hS o 0 hat rfl (in_ix hi hN) hd (fun H1 locs1 hP1 hD1 hS1 => ?_)
  rw [ix_nat hi.1 hN] at hP1 hD1
  exact h p e R s m args below meth c H1 locs1 cells slots ν ν0 n0 ls C hc hs (RM_set hM hM0 (c := .inl (0, N, .inl (upd f i.toNat x))) trivial hP1 hD1) hk (by rw [List.length_set]; exact hn) hS1 hl
theorem g_lald {o N : Nat} {f : Nat → Int64} {i : Int} (hM0 : M[o]? = some (.inl (1, N, .inr (.inl f)))) (hi : 0 ≤ i ∧ i < N) (hN : i ≤ 2147483647) (hd : decode (yB y) pc = .ok (.laload, 1)) (h : GW g y k n Φ (pc + 1) L (.long (f i.toNat) :: st) M) : GW g y k n Φ pc L (iv i :: .ref o :: st) M := by
  intro p e R s m args below meth c H locs cells slots ν ν0 n0 ls C hc hs hM hk hn hS hl
  have hat : (rW g ν M)[o]? = some (ν o, .inl (gC g 1, N, .inr (.inl f))) := rW_at (g := g) (ν := ν) hM0
  have hG := C.2.2.2.2.2.2.2.2.2.2.2
  have k1 := h p e R s m args below meth c H locs cells slots ν ν0 n0 ls C hc hs hM hk hn hS hl
  rw [List.map_cons, List.map_cons, st_ref hM hM0]
  exact va_lald C.1 C.2.1 hG.1 hM.1 o 1 hat rfl (in_ix hi hN) hd (by rw [ix_nat hi.1 hN]; exact k1)
theorem g_last {o N : Nat} {f : Nat → Int64} {i : Int} {x : Int64} (hM0 : M[o]? = some (.inl (1, N, .inr (.inl f)))) (hi : 0 ≤ i ∧ i < N) (hN : i ≤ 2147483647) (hd : decode (yB y) pc = .ok (.lastore, 1)) (h : GW g y k n Φ (pc + 1) L st (M.set o (.inl (1, N, .inr (.inl (vp_updL f i.toNat x)))))) : GW g y k n Φ pc L (.long x :: iv i :: .ref o :: st) M := by
  intro p e R s m args below meth c H locs cells slots ν ν0 n0 ls C hc hs hM hk hn hS hl
  have hat : (rW g ν M)[o]? = some (ν o, .inl (gC g 1, N, .inr (.inl f))) := rW_at (g := g) (ν := ν) hM0
  have hG := C.2.2.2.2.2.2.2.2.2.2.2
  rw [List.map_cons, List.map_cons, List.map_cons, st_ref hM hM0]
  refine va_last C.1 C.2.1 hG.1 hM.1 hM.2.1 hS o 1 hat rfl (in_ix hi hN) hd (fun H1 locs1 hP1 hD1 hS1 => ?_)
  rw [ix_nat hi.1 hN] at hP1 hD1
  exact h p e R s m args below meth c H1 locs1 cells slots ν ν0 n0 ls C hc hs (RM_set hM hM0 (c := .inl (1, N, .inr (.inl (vp_updL f i.toNat x)))) trivial hP1 hD1) hk (by rw [List.length_set]; exact hn) hS1 hl
theorem g_zald {o N : Nat} {f : Nat → Int32} {i : Int} (hM0 : M[o]? = some (.inl (2, N, .inl f))) (hi : 0 ≤ i ∧ i < N) (hN : i ≤ 2147483647) (hd : decode (yB y) pc = .ok (.baload, 1)) (h : GW g y k n Φ (pc + 1) L (.int (f i.toNat) :: st) M) : GW g y k n Φ pc L (iv i :: .ref o :: st) M := by
  intro p e R s m args below meth c H locs cells slots ν ν0 n0 ls C hc hs hM hk hn hS hl
  have hat : (rW g ν M)[o]? = some (ν o, .inl (gC g 2, N, .inl f)) := rW_at (g := g) (ν := ν) hM0
  have hG := C.2.2.2.2.2.2.2.2.2.2.2
  have k1 := h p e R s m args below meth c H locs cells slots ν ν0 n0 ls C hc hs hM hk hn hS hl
  rw [List.map_cons, List.map_cons, st_ref hM hM0]
  exact va_zald C.1 C.2.1 hG.1 hM.1 o 2 hat rfl (in_ix hi hN) hd (by rw [ix_nat hi.1 hN]; exact k1)
theorem g_zast1 {o N : Nat} {f : Nat → Int32} {i : Int} (hM0 : M[o]? = some (.inl (2, N, .inl f))) (hi : 0 ≤ i ∧ i < N) (hN : i ≤ 2147483647) (hd : decode (yB y) pc = .ok (.bastore, 1)) (h : GW g y k n Φ (pc + 1) L st (M.set o (.inl (2, N, .inl (upd f i.toNat 1))))) : GW g y k n Φ pc L (iv 1 :: iv i :: .ref o :: st) M := by
  intro p e R s m args below meth c H locs cells slots ν ν0 n0 ls C hc hs hM hk hn hS hl
  have hat : (rW g ν M)[o]? = some (ν o, .inl (gC g 2, N, .inl f)) := rW_at (g := g) (ν := ν) hM0
  have hG := C.2.2.2.2.2.2.2.2.2.2.2
  rw [List.map_cons, List.map_cons, List.map_cons, st_ref hM hM0]
  refine va_zast C.1 C.2.1 hG.1 hM.1 hM.2.1 hS o 2 hat rfl (in_ix hi hN) hd (fun H1 locs1 hP1 hD1 hS1 => ?_)
  rw [ix_nat hi.1 hN, show vp_nar .boolean (Int32.ofInt 1) = 1 from by decide] at hP1 hD1
  exact h p e R s m args below meth c H1 locs1 cells slots ν ν0 n0 ls C hc hs (RM_set hM hM0 (c := .inl (2, N, .inl (upd f i.toNat 1))) trivial hP1 hD1) hk (by rw [List.length_set]; exact hn) hS1 hl
theorem g_dald {o N : Nat} {f : Nat → UInt64} {i : Int} (hM0 : M[o]? = some (.inl (3, N, .inr (.inr (.inr (.inl f)))))) (hi : 0 ≤ i ∧ i < N) (hN : i ≤ 2147483647) (hd : decode (yB y) pc = .ok (.daload, 1)) (h : GW g y k n Φ (pc + 1) L (.double (f i.toNat) :: st) M) : GW g y k n Φ pc L (iv i :: .ref o :: st) M := by
  intro p e R s m args below meth c H locs cells slots ν ν0 n0 ls C hc hs hM hk hn hS hl
  have hat : (rW g ν M)[o]? = some (ν o, .inl (gC g 3, N, .inr (.inr (.inr (.inl f))))) := rW_at (g := g) (ν := ν) hM0
  have hG := C.2.2.2.2.2.2.2.2.2.2.2
  have k1 := h p e R s m args below meth c H locs cells slots ν ν0 n0 ls C hc hs hM hk hn hS hl
  rw [List.map_cons, List.map_cons, st_ref hM hM0]
  exact va_dald C.1 C.2.1 hG.1 hM.1 o 3 hat rfl (in_ix hi hN) hd (by rw [ix_nat hi.1 hN]; exact k1)
theorem g_dast {o N : Nat} {f : Nat → UInt64} {i : Int} {x : UInt64} (hM0 : M[o]? = some (.inl (3, N, .inr (.inr (.inr (.inl f)))))) (hi : 0 ≤ i ∧ i < N) (hN : i ≤ 2147483647) (hd : decode (yB y) pc = .ok (.dastore, 1)) (h : GW g y k n Φ (pc + 1) L st (M.set o (.inl (3, N, .inr (.inr (.inr (.inl (vf_upd f i.toNat x)))))))) : GW g y k n Φ pc L (.double x :: iv i :: .ref o :: st) M := by
  intro p e R s m args below meth c H locs cells slots ν ν0 n0 ls C hc hs hM hk hn hS hl
  have hat : (rW g ν M)[o]? = some (ν o, .inl (gC g 3, N, .inr (.inr (.inr (.inl f))))) := rW_at (g := g) (ν := ν) hM0
  have hG := C.2.2.2.2.2.2.2.2.2.2.2
  rw [List.map_cons, List.map_cons, List.map_cons, st_ref hM hM0]
  refine va_dast C.1 C.2.1 hG.1 hM.1 hM.2.1 hS o 3 hat rfl (in_ix hi hN) hd (fun H1 locs1 hP1 hD1 hS1 => ?_)
  rw [ix_nat hi.1 hN] at hP1 hD1
  exact h p e R s m args below meth c H1 locs1 cells slots ν ν0 n0 ls C hc hs (RM_set hM hM0 (c := .inl (3, N, .inr (.inr (.inr (.inl (vf_upd f i.toNat x)))))) trivial hP1 hD1) hk (by rw [List.length_set]; exact hn) hS1 hl
theorem g_alen {o t : Nat} {x : vp_A} (ht : t < 5) (hM0 : M[o]? = some (.inl (t, x))) (hd : decode (yB y) pc = .ok (.arraylength, 1)) (h : GW g y k n Φ (pc + 1) L (iv x.1 :: st) M) : GW g y k n Φ pc L (.ref o :: st) M := by
  intro p e R s m args below meth c H locs cells slots ν ν0 n0 ls C hc hs hM hk hn hS hl
  have hat : (rW g ν M)[o]? = some (ν o, .inl (gC g t, rA g ν x)) := rW_at (g := g) (ν := ν) hM0
  have hG := C.2.2.2.2.2.2.2.2.2.2.2
  have k1 := h p e R s m args below meth c H locs cells slots ν ν0 n0 ls C hc hs hM hk hn hS hl
  rw [List.map_cons, st_ref hM hM0]
  have hx : (rA g ν x).1 = x.1 := by
    obtain ⟨n9, f9⟩ := x
    rcases f9 with f | f | f | f | f <;> rfl
  have hty : ∃ ty, (g_tys g)[t]? = some (gC g t, ty) := by
    rcases t with _ | _ | _ | _ | _ | t
    · exact ⟨_, rfl⟩
    · exact ⟨_, rfl⟩
    · exact ⟨_, rfl⟩
    · exact ⟨_, rfl⟩
    · exact ⟨_, rfl⟩
    · omega
  obtain ⟨ty, hty⟩ := hty
  exact va_alen C.1 C.2.1 hG.1 hM.1 o t hat hty (v := Int32.ofInt (x.1 : Int)) (by rw [hx]; rfl) hd k1
theorem g_aald {o N : Nat} {f : Nat → Option Nat} {i : Int} {q : Nat} (hM0 : M[o]? = some (.inl (4, N, .inr (.inr (.inr (.inr f)))))) (hi : 0 ≤ i ∧ i < N) (hN : i ≤ 2147483647) (hq : f i.toNat = some q) (hd : decode (yB y) pc = .ok (.aaload, 1)) (h : GW g y k n Φ (pc + 1) L (.ref q :: st) M) : GW g y k n Φ pc L (iv i :: .ref o :: st) M := by
  intro p e R s m args below meth c H locs cells slots ν ν0 n0 ls C hc hs hM hk hn hS hl
  have hat : (rW g ν M)[o]? = some (ν o, .inl (gC g 4, N, .inr (.inr (.inr (.inr (fun j => (f j).map (rN g ν))))))) := rW_at (g := g) (ν := ν) hM0
  have hG := C.2.2.2.2.2.2.2.2.2.2.2
  have k1 := h p e R s m args below meth c H locs cells slots ν ν0 n0 ls C hc hs hM hk hn hS hl
  rw [List.map_cons, List.map_cons, st_ref hM hM0]
  exact va_aldq C.1 C.2.1 hG.1 hM.1 o 4 hat rfl (in_ix hi hN) hd (by rw [ix_nat hi.1 hN, hq]; exact k1)
theorem g_aast {o N q : Nat} {f : Nat → Option Nat} {i : Int} {vs : List Value} (hM0 : M[o]? = some (.inl (4, N, .inr (.inr (.inr (.inr f)))))) (hq : M[q]? = some (.inr (3, vs))) (hqo : ownr q = none) (hi : 0 ≤ i ∧ i < N) (hN : i ≤ 2147483647) (hd : decode (yB y) pc = .ok (.aastore, 1)) (h : GW g y k n Φ (pc + 1) L st (M.set o (.inl (4, N, .inr (.inr (.inr (.inr (va_up f i.toNat (some q)))))))) ) : GW g y k n Φ pc L (.ref q :: iv i :: .ref o :: st) M := by
  intro p e R s m args below meth c H locs cells slots ν ν0 n0 ls C hc hs hM hk hn hS hl
  have hat : (rW g ν M)[o]? = some (ν o, .inl (gC g 4, N, .inr (.inr (.inr (.inr (fun j => (f j).map (rN g ν))))))) := rW_at (g := g) (ν := ν) hM0
  have hG := C.2.2.2.2.2.2.2.2.2.2.2
  rw [List.map_cons, List.map_cons, List.map_cons, st_ref hM hM0, st_ref hM hq]
  refine va_astq (r := (RX3, TX3, 16)) C.1 C.2.1 hG.1 hM.1 hM.2.1 hS o 4 q 3 hat rfl (rW_at (g := g) (ν := ν) hq) rfl (in_ix hi hN) hd (fun H1 locs1 hP1 hD1 hS1 => ?_)
  rw [ix_nat hi.1 hN] at hP1 hD1
  have e1 : (Sum.inl (gC g 4, N, Sum.inr (Sum.inr (Sum.inr (Sum.inr (va_up (fun j => (f j).map (rN g ν)) i.toNat (some (ν q))))))) : va_E) = rC g ν (.inl (4, N, .inr (.inr (.inr (.inr (va_up f i.toNat (some q))))))) := by
    show _ = Sum.inl (gC g 4, N, Sum.inr (Sum.inr (Sum.inr (Sum.inr (fun j => (va_up f i.toNat (some q) j).map (rN g ν))))))
    refine congrArg (fun z => Sum.inl (gC g 4, N, Sum.inr (Sum.inr (Sum.inr (Sum.inr z))))) (funext fun j => ?_)
    unfold va_up
    split
    · rw [Option.map_some, rN_lt (hM.lt hq)]
    · rfl
  rw [e1] at hP1 hD1
  refine h p e R s m args below meth c H1 locs1 cells slots ν ν0 n0 ls C hc hs (RM_set hM hM0 ?_ hP1 hD1) hk (by rw [List.length_set]; exact hn) hS1 hl
  intro j q' hj
  unfold va_up at hj
  split at hj
  · cases hj
    exact ⟨(List.getElem?_eq_some_iff.mp hq).1, hqo⟩
  · exact hM.2.2.1 o _ hM0 j q' hj
/-! returns -/
theorem retQ {g : gT} {y : yT} {Φ : mO → mM → Prop} {M : mM} {s t : State} {args : Array Value} {H : Heap} {locs : List Loc} {ν ν0 : Nat → Nat} {n0 : Nat} {v : Option Value} (hΦ : Φ (.inl v) M) (hM : RM g ν M H) (hk : kp (yK y) ν0 ν n0) (hn : n0 ≤ M.length) (hS : va_S (gA g) s.heap H locs) (ht : t.heap = H) : QC g y ν0 n0 Φ args s (.returned (v.map (rV g ν))) t :=
  ⟨v, M, ν, rfl, hΦ, by rw [ht]; exact hM, hk, hn, hS.F ht⟩
theorem g_ireturn {x : Int32} {ty : FieldType} (hr : yR y = some ty) (hnr : narrow ty (.int x) = .int x) (hd : decode (yB y) pc = .ok (.ireturn, 1)) (h : Φ (.inl (some (.int x))) M) : GW g y k n Φ pc L [.int x] M := by
  intro p e R s m args below meth c H locs cells slots ν ν0 n0 ls C hc hs hM hk hn hS hl
  refine vx_ret (W.widen (Nat.le_trans (Nat.le_add_right _ _) hc) (Nat.le_trans (Nat.le_add_right _ _) hs) ?_)
  exact W.zret C.1 C.2.1 (C.2.2.2.2.2.1.trans hr) hnr (fun t ht _ => retQ h hM hk hn hS ht) hS.2.2 hd C.2.2.2.2.2.2.1
theorem g_return (hr : yR y = none) (hd : decode (yB y) pc = .ok (.return_, 1)) (h : Φ (.inl none) M) : GW g y k n Φ pc L [] M := by
  intro p e R s m args below meth c H locs cells slots ν ν0 n0 ls C hc hs hM hk hn hS hl
  refine vx_ret (W.widen (Nat.le_trans (Nat.le_add_right _ _) hc) (Nat.le_trans (Nat.le_add_right _ _) hs) ?_)
  exact W.vret C.1 C.2.1 (C.2.2.2.2.2.1.trans hr) (fun t ht _ => retQ h hM hk hn hS ht) hS.2.2 hd C.2.2.2.2.2.2.1
theorem g_freturn {x : UInt32} (hr : yR y = some .float) (hd : decode (yB y) pc = .ok (.freturn, 1)) (h : Φ (.inl (some (.float x))) M) : GW g y k n Φ pc L [.float x] M := by
  intro p e R s m args below meth c H locs cells slots ν ν0 n0 ls C hc hs hM hk hn hS hl
  refine vx_ret (W.widen (Nat.le_trans (Nat.le_add_right _ _) hc) (Nat.le_trans (Nat.le_add_right _ _) hs) ?_)
  exact W.fret C.1 C.2.1 (C.2.2.2.2.2.1.trans hr) (fun t ht _ => retQ h hM hk hn hS ht) hS.2.2 hd C.2.2.2.2.2.2.1
theorem g_dreturn {x : UInt64} (hr : yR y = some .double) (hd : decode (yB y) pc = .ok (.dreturn, 1)) (h : Φ (.inl (some (.double x))) M) : GW g y k n Φ pc L [.double x] M := by
  intro p e R s m args below meth c H locs cells slots ν ν0 n0 ls C hc hs hM hk hn hS hl
  refine vx_ret (W.widen (Nat.le_trans (Nat.le_add_right _ _) hc) (Nat.le_trans (Nat.le_add_right _ _) hs) ?_)
  exact W.dret C.1 C.2.1 (C.2.2.2.2.2.1.trans hr) (fun t ht _ => retQ h hM hk hn hS ht) hS.2.2 hd C.2.2.2.2.2.2.1
theorem g_areturn {v : Value} {rt : FieldType} (hr : yR y = some rt) (hrt : (∃ n, rt = .object n) ∨ ∃ t, rt = .array t) (hv : v = .null ∨ ∃ a, v = .ref a) (hd : decode (yB y) pc = .ok (.areturn, 1)) (h : Φ (.inl (some v)) M) : GW g y k n Φ pc L [v] M := by
  intro p e R s m args below meth c H locs cells slots ν ν0 n0 ls C hc hs hM hk hn hS hl
  refine vx_ret (W.widen (Nat.le_trans (Nat.le_add_right _ _) hc) (Nat.le_trans (Nat.le_add_right _ _) hs) ?_)
  exact W.aret C.1 C.2.1 (C.2.2.2.2.2.1.trans hr) hrt (by rcases hv with rfl | ⟨a, rfl⟩; exact Or.inl rfl; exact Or.inr ⟨_, rfl⟩) (fun t ht _ => retQ h hM hk hn hS ht) hS.2.2 hd C.2.2.2.2.2.2.1
end GM7
