/-! New objects and arrays; a row made anew. -/
section GN11
def nuS (ν : Nat → Nat) (r q : Nat) : Nat → Nat := fun j => if j = r then q else ν j
theorem nuS_ne {ν : Nat → Nat} {r q j : Nat} (h : j ≠ r) : nuS ν r q j = ν j := if_neg h
theorem nuS_eq {ν : Nat → Nat} {r q : Nat} : nuS ν r q r = q := if_pos rfl
theorem rV_nuS {g : gT} {ν : Nat → Nat} {r q : Nat} {v : Value} (h : v ≠ .ref r) : rV g (nuS ν r q) v = rV g ν v :=
  rV_eq fun n hn _ => nuS_ne (fun e => h (by rw [hn, e]))
theorem okC_mono {a len len' : Nat} {c : mC} (h : okC a len c) (hl : len ≤ len') : okC a len' c := by
  rcases c with ⟨t, n, x⟩ | ⟨ci, fs⟩
  · rcases x with f | f | f | f | f
    · trivial
    · trivial
    · trivial
    · trivial
    · exact fun j q hj => ⟨Nat.lt_of_lt_of_le (h j q hj).1 hl, (h j q hj).2⟩
  · intro k v hk
    obtain ⟨h1, h2⟩ := h k v hk
    refine ⟨?_, h2⟩
    cases v <;> try rfl
    simp only [cV, Bool.or_eq_true, decide_eq_true_eq] at h1 ⊢
    exact h1.elim (fun h => Or.inl (Nat.lt_of_lt_of_le h hl)) Or.inr
theorem rC_nuS {g : gT} {ν : Nat → Nat} {r q a len : Nat} {c : mC} (hl : len ≤ KB) (hok : okC a len c) (hr : len ≤ r) : rC g (nuS ν r q) c = rC g ν c :=
  rC_eq hl hok fun n hn => nuS_ne (by omega)
/-- one more cell -/
theorem RM_app {g : gT} {ν : Nat → Nat} {M : mM} {H H1 : Heap} {q : Nat} {c : mC} (h : RM g ν M H) (hlt : M.length < KB) (hc : okC M.length M.length c) (hP : va_P (gD g) CL (rW g ν M ++ [(q, rC g ν c)]) H1) (hD : va_D (gA g) (rW g ν M ++ [(q, rC g ν c)])) : RM g (nuS ν M.length q) (M ++ [c]) H1 := by
  have e1 : rW g (nuS ν M.length q) (M ++ [c]) = rW g ν M ++ [(q, rC g ν c)] := by
    have hl : (rW g ν M).length = M.length := by unfold rW; simp
    refine List.ext_getElem? fun j => ?_
    rw [rW_get]
    by_cases hj : j < M.length
    · rw [List.getElem?_append_left hj, List.getElem?_append_left (by rw [hl]; exact hj), rW_get]
      cases hm : M[j]? with
      | none => rfl
      | some c' =>
        simp only [Option.map_some]
        rw [nuS_ne (by omega), rC_nuS h.2.2.2 (h.2.2.1 j c' hm) (Nat.le_refl _)]
    · rw [List.getElem?_append_right (by omega), List.getElem?_append_right (by rw [hl]; omega), hl]
      by_cases hj2 : j = M.length
      · subst hj2
        simp only [Nat.sub_self, List.getElem?_cons_zero, Option.map_some]
        rw [nuS_eq, rC_nuS h.2.2.2 hc (Nat.le_refl _)]
      · have : j - M.length = (j - M.length - 1) + 1 := by omega
        rw [this]
        simp
  refine ⟨by rw [e1]; exact hP, by rw [e1]; exact hD, ?_, by simp; omega⟩
  intro a c' ha
  rw [List.length_append]
  by_cases hj : a < M.length
  · rw [List.getElem?_append_left hj] at ha
    exact okC_mono (h.2.2.1 a c' ha) (Nat.le_add_right _ _)
  · rw [List.getElem?_append_right (by omega)] at ha
    by_cases hj2 : a = M.length
    · subst hj2
      simp only [Nat.sub_self, List.getElem?_cons_zero] at ha
      cases ha
      exact okC_mono hc (Nat.le_add_right _ _)
    · have : a - M.length = (a - M.length - 1) + 1 := by omega
      rw [this] at ha
      simp at ha
theorem rL_nuS {g : gT} {ν : Nat → Nat} {len q : Nat} {L : List (Option Value)} (hlt : len < KB) (h : okL len L) : rL g (nuS ν len q) (lvE L) = rL g ν (lvE L) :=
  L_kp (k := 2) (len := len) (fun n hn _ => nuS_ne (by omega)) h
theorem st_nuS {g : gT} {ν : Nat → Nat} {len q : Nat} {st : List Value} (hlt : len < KB) (h : okS len st) : st.map (rV g (nuS ν len q)) = st.map (rV g ν) :=
  st_kp (k := 2) (len := len) (fun n hn _ => nuS_ne (by omega)) h
theorem kp_nuS {k n0 len q : Nat} {ν0 ν : Nat → Nat} (h : kp k ν0 ν n0) (hk : 2 ≤ k) (hn : n0 ≤ len) : kp k ν0 (nuS ν len q) n0 := by
  rcases k with _ | _ | k
  · omega
  · omega
  · intro n h1 h2
    rw [nuS_ne (by omega)]
    exact h n h1 h2
variable {g : gT} {y : yT} {k n : Nat} {Φ : mO → mM → Prop} {pc : Nat} {L : List (Option Value)} {st : List Value} {M : mM}
theorem ge_A {g : gT} {s : State} (h : GK g s s.heap) : ∀ q, s.heap.size ≤ q → gA g q := fun _ hq => Nat.le_trans h.2.1 hq
theorem cls_of {g : gT} {s : State} {cA : ClassId} {ty : FieldType} {t : Nat} (hty : (g_tys g)[t]? = some (gC g t, ty)) (hK : va_K (gD g) CL (g_tys g ++ [(cA, ty)]) s) : cA = gC g t := by
  have h1 := (hK.2 t (gC g t, ty) (by rw [List.getElem?_append_left (List.getElem?_eq_some_iff.mp hty).1]; exact hty)).2
  have h2 := (hK.2 (g_tys g).length (cA, ty) (by rw [List.getElem?_append_right (Nat.le_refl _), Nat.sub_self]; rfl)).2
  cases ty
  case object C =>
    obtain ⟨_, _, _, _, _, h3⟩ := h1
    obtain ⟨_, _, _, _, _, h4⟩ := h2
    exact Option.some.inj (h4.symm.trans h3)
  all_goals exact Option.some.inj (Eq.trans (Eq.symm h2) h1)
theorem g_newa {t N : Nat} {atype : ArrayType} {ty : FieldType} {a0 : vp_A} (hk2 : 2 ≤ yK y) (hlt : M.length < KB) (hok : okL M.length L ∧ okS M.length st) (ht : ∀ g : gT, (g_tys g)[t]? = some (gC g t, ty)) (hty : newarray.typeOf atype = ty) (ha : ∀ cA : ClassId, vp_cell cA a0 = arrV cA N (fun _ => defaultValue ty)) (hre : ∀ (g : gT) (ν : Nat → Nat), rA g ν a0 = a0) (hoc : ∀ a len, okC a len (.inl (t, a0))) (hw : Cond.arrayClass ty ∈ WS) (hN : N ≤ 1000000) (hb : componentBytes ty ≤ 8) (hd : decode (yB y) pc = .ok (.newarray atype, 2)) (hk1 : 1 ≤ k) (hn1 : N ≤ n) (h : GW g y (k - 1) (n - N) Φ (pc + 2) L (.ref M.length :: st) (M ++ [.inl (t, a0)])) : GW g y k n Φ pc L (iv N :: st) M := by
  intro p e R s m args below meth c H locs cells slots ν ν0 n0 ls C hc hs hM hk hn hS hl
  have hG := C.2.2.2.2.2.2.2.2.2.2.2
  have e0 : (Int32.ofInt (N : Int)).toInt = N := toI ⟨by omega, by omega⟩
  refine va_newa C.1 C.2.1 (a0 := a0) (by rw [hty]; exact C.2.2.2.2.1 _ hw) hty hG.1 hM.1 hM.2.1 hS (ge_A hG) ha (by intro h9; rw [Int32.lt_iff_toInt_lt, e0] at h9; have h8 : (N : Int) < 0 := h9; omega) (by unfold Int32.toNatClampNeg; rw [e0]; exact Int.toNat_natCast N) (Nat.le_trans (Nat.mul_le_mul hN hb) (by decide)) (by omega) (by omega) hd (fun q cA H1 hK hP hD hS1 => ?_)
  have hcA := cls_of (ht g) hK
  subst hcA
  have e1 : (Sum.inl (gC g t, a0) : va_E) = rC g ν (.inl (t, a0)) := by show _ = Sum.inl (gC g t, rA g ν a0); rw [hre]
  rw [e1] at hP hD
  have hM2 := RM_app hM hlt (hoc _ _) hP hD
  have h9 := h p e R s m args below meth c H1 locs (cells + 1) (slots + N) (nuS ν M.length q) ν0 n0 ls C (by omega) (by omega) hM2 (kp_nuS hk hk2 hn) (by rw [List.length_append]; omega) hS1 (by rw [rL_nuS hlt hok.1]; exact hl)
  rw [List.map_cons, st_nuS hlt hok.2, show rV g (nuS ν M.length q) (.ref M.length) = .ref q from by show Value.ref (rN g _ _) = _; rw [rN_lt hlt, nuS_eq]] at h9
  exact h9
theorem g_newI {N : Nat} (hk2 : 2 ≤ yK y) (hlt : M.length < KB) (hok : okL M.length L ∧ okS M.length st) (hN : N ≤ 1000000) (hd : decode (yB y) pc = .ok (.newarray .int, 2)) (hk1 : 1 ≤ k) (hn1 : N ≤ n) (h : GW g y (k - 1) (n - N) Φ (pc + 2) L (.ref M.length :: st) (M ++ [.inl (0, N, .inl (fun _ => 0))])) : GW g y k n Φ pc L (iv N :: st) M :=
  g_newa (t := 0) (ty := .int) (a0 := (N, .inl (fun _ => 0))) hk2 hlt hok (fun _ => rfl) rfl (fun _ => rfl) (fun _ _ => rfl) (fun _ _ => trivial) ac_1_124 hN (by decide) hd hk1 hn1 h
theorem g_newL {N : Nat} (hk2 : 2 ≤ yK y) (hlt : M.length < KB) (hok : okL M.length L ∧ okS M.length st) (hN : N ≤ 1000000) (hd : decode (yB y) pc = .ok (.newarray .long, 2)) (hk1 : 1 ≤ k) (hn1 : N ≤ n) (h : GW g y (k - 1) (n - N) Φ (pc + 2) L (.ref M.length :: st) (M ++ [.inl (1, N, .inr (.inl (fun _ => 0)))])) : GW g y k n Φ pc L (iv N :: st) M :=
  g_newa (t := 1) (ty := .long) (a0 := (N, .inr (.inl (fun _ => 0)))) hk2 hlt hok (fun _ => rfl) rfl (fun _ => rfl) (fun _ _ => rfl) (fun _ _ => trivial) ac_6_57 hN (by decide) hd hk1 hn1 h
theorem g_newZ {N : Nat} (hk2 : 2 ≤ yK y) (hlt : M.length < KB) (hok : okL M.length L ∧ okS M.length st) (hN : N ≤ 1000000) (hd : decode (yB y) pc = .ok (.newarray .boolean, 2)) (hk1 : 1 ≤ k) (hn1 : N ≤ n) (h : GW g y (k - 1) (n - N) Φ (pc + 2) L (.ref M.length :: st) (M ++ [.inl (2, N, .inl (fun _ => 0))])) : GW g y k n Φ pc L (iv N :: st) M :=
  g_newa (t := 2) (ty := .boolean) (a0 := (N, .inl (fun _ => 0))) hk2 hlt hok (fun _ => rfl) rfl (fun _ => rfl) (fun _ _ => rfl) (fun _ _ => trivial) ac_6_56 hN (by decide) hd hk1 hn1 h
theorem g_newD {N : Nat} (hk2 : 2 ≤ yK y) (hlt : M.length < KB) (hok : okL M.length L ∧ okS M.length st) (hN : N ≤ 1000000) (hd : decode (yB y) pc = .ok (.newarray .double, 2)) (hk1 : 1 ≤ k) (hn1 : N ≤ n) (h : GW g y (k - 1) (n - N) Φ (pc + 2) L (.ref M.length :: st) (M ++ [.inl (3, N, .inr (.inr (.inr (.inl (fun _ => 0)))))])) : GW g y k n Φ pc L (iv N :: st) M :=
  g_newa (t := 3) (ty := .double) (a0 := (N, .inr (.inr (.inr (.inl (fun _ => 0)))))) hk2 hlt hok (fun _ => rfl) rfl (fun _ => rfl) (fun _ _ => rfl) (fun _ _ => trivial) ac_8_109 hN (by decide) hd hk1 hn1 h
theorem g_new {idx ci N : Nat} {Cn : String} {T : u_T} {fs : List Value} (hk2 : 2 ≤ yK y) (hlt : M.length < KB) (hok : okL M.length L ∧ okS M.length st) (hC : CL[ci]? = some (Cn, T, N)) (hw : Cond.classLink (yN y).cls idx Cn ∈ WS) (hi : Cond.instantiable Cn N ∈ WS ∧ Cond.initialized Cn ∈ WS) (hfs : ∀ j, j < N → defaultValue (ty_of ci j) = vp_V fs j) (hnr : ∀ v ∈ fs, ∀ q, v ≠ .ref q) (hd : decode (yB y) pc = .ok (.new idx, 3)) (hk1 : 1 ≤ k) (hn1 : N ≤ n) (h : GW g y (k - 1) (n - N) Φ (pc + 3) L (.ref M.length :: st) (M ++ [.inr (ci, fs)])) : GW g y k n Φ pc L st M := by
  intro p e R s m args below meth c H locs cells slots ν ν0 n0 ls C hc hs hM hk hn hS hl
  have hG := C.2.2.2.2.2.2.2.2.2.2.2
  have hw2 := C.2.2.2.2.1
  refine va_new C.1 C.2.1 hw2 (uws_ok _ (List.mem_of_getElem? hC)) (ty_of ci) (ty_ok hC) C.2.2.2.1 (hw2 _ hw) (hw2 _ hi.1) (hw2 _ hi.2) hG.1 hM.1 hM.2.1 hS (ge_A hG) hC hfs (by omega) (show slots + N ≤ R.slots by omega) hd (fun q H1 hP hD hS1 => ?_)
  have hid : fs.map (rV g ν) = fs := by
    rw [show fs.map (rV g ν) = fs.map id from List.map_congr_left fun v hv => by
      cases v <;> first | rfl | exact absurd rfl (hnr _ hv _)]
    exact List.map_id fs
  have e1 : (Sum.inr (ci, fs) : va_E) = rC g ν (.inr (ci, fs)) := by show _ = Sum.inr (ci, fs.map (rV g ν)); rw [hid]
  rw [e1] at hP hD
  have hoc : okC M.length M.length (.inr (ci, fs)) := by
    intro k' v hv
    have hm := List.mem_of_getElem? hv
    exact ⟨by cases v <;> first | rfl | exact absurd rfl (hnr _ hm _), fun q o h1 => absurd h1 (hnr _ hm q)⟩
  have hM2 := RM_app hM hlt hoc hP hD
  have h9 := h p e R s m args below meth c H1 locs (cells + 1) (slots + N) (nuS ν M.length q) ν0 n0 ls C (by omega) (by omega) hM2 (kp_nuS hk hk2 hn) (by rw [List.length_append]; omega) hS1 (by rw [rL_nuS hlt hok.1]; exact hl)
  rw [List.map_cons, st_nuS hlt hok.2, show rV g (nuS ν M.length q) (.ref M.length) = .ref q from by show Value.ref (rN g _ _) = _; rw [rN_lt hlt, nuS_eq]] at h9
  exact h9
theorem g_newQ {idx N : Nat} (hk2 : 2 ≤ yK y) (hlt : M.length < KB) (hok : okL M.length L ∧ okS M.length st) (hw : Cond.classLink (yN y).cls idx "HoleWhistle$State" ∈ WS) (hN : N ≤ 1000000) (hd : decode (yB y) pc = .ok (.anewarray idx, 3)) (hk1 : 1 ≤ k) (hn1 : N ≤ n) (h : GW g y (k - 1) (n - N) Φ (pc + 3) L (.ref M.length :: st) (M ++ [.inl (4, N, .inr (.inr (.inr (.inr (fun _ => none)))))])) : GW g y k n Φ pc L (iv N :: st) M := by
  intro p e R s m args below meth c H locs cells slots ν ν0 n0 ls C hc hs hM hk hn hS hl
  have hG := C.2.2.2.2.2.2.2.2.2.2.2
  have e0 : (Int32.ofInt (N : Int)).toInt = N := toI ⟨by omega, by omega⟩
  refine va_newq C.1 C.2.1 C.2.2.2.1 (C.2.2.2.2.1 _ hw) hG.2.2.2.2.2.2.2.2.2.2.2.2.2.2 hG.1 hM.1 hM.2.1 hS (ge_A hG) (by intro h9; rw [Int32.lt_iff_toInt_lt, e0] at h9; have h8 : (N : Int) < 0 := h9; omega) (by unfold Int32.toNatClampNeg; rw [e0]; first | done | exact Int.toNat_natCast N) (by omega) (by omega) (by omega) hd (fun q cA H1 hK hP hD hS1 => ?_)
  have hcA := cls_of (g := g) (t := 4) rfl hK
  subst hcA
  have hM2 := RM_app (c := .inl (4, N, .inr (.inr (.inr (.inr (fun _ => none)))))) hM hlt (fun j q hj => by cases hj) hP hD
  have h9 := h p e R s m args below meth c H1 locs (cells + 1) (slots + N) (nuS ν M.length q) ν0 n0 ls C (by omega) (by omega) hM2 (kp_nuS hk hk2 hn) (by rw [List.length_append]; omega) hS1 (by rw [rL_nuS hlt hok.1]; exact hl)
  rw [List.map_cons, st_nuS hlt hok.2, show rV g (nuS ν M.length q) (.ref M.length) = .ref q from by show Value.ref (rN g _ _) = _; rw [rN_lt hlt, nuS_eq]] at h9
  exact h9
theorem g_objInit {idx o : Nat} {c0 : mC} (hM0 : M[o]? = some c0) (hw : Cond.methodLink (yN y).cls idx Lib.objectInit ∈ WS) (hroom : 1 ≤ yF y ∧ (st.map fun v => v.category).sum + 12 ≤ yL y) (hd : decode (yB y) pc = .ok (.invokespecial idx, 3)) (h : GW g y k n Φ (pc + 3) L st M) : GW g y k n Φ pc L (.ref o :: st) M := by
  intro p e R s m args below meth c H locs cells slots ν ν0 n0 ls C hc hs hM hk hn hS hl
  have hw2 := C.2.2.2.2.1
  have h9 := h p e R s m args below meth c H locs cells slots ν ν0 n0 ls C hc hs hM hk hn hS hl
  have q1 : yF y ≤ R.frames := C.2.2.2.2.2.2.2.2.1
  have q2 : yL y ≤ R.locals := C.2.2.2.2.2.2.2.2.2.1
  rw [List.map_cons, st_ref hM hM0]
  exact W.objInit C.1 C.2.1 C.2.2.2.1 (hw2 _ hw) (hw2 _ objI.1) (hw2 _ objI.2) rfl (hl.1.trans C.2.2.1.symm) rfl hd (by omega) (by rw [sum_rV]; show 2 * 0 + _ + 12 ≤ _; omega) h9
/-- a growing row made anew, of the same name -/
theorem g_newput {idx o ci kf r N : Nat} {fs : List Value} {c0 : mC} (hk2 : 1 ≤ yK y) (hf : FL (yN y).cls idx ci kf) (hfin : ∀ C T N, CL[ci]? = some (C, T, N) → (T kf).2.2.2 = false) (hty : ty_of ci kf = .array .int) (hM0 : M[o]? = some (.inr (ci, fs))) (hv : fs[kf]? = some (.ref r)) (hr : ownr r = some (o, kf)) (hro : r ≠ o) (hMr : M[r]? = some c0) (hok : okL M.length L ∧ okS M.length st) (hN : N ≤ 1000000) (hd : decode (yB y) pc = .ok (.newarray .int, 2)) (hd2 : decode (yB y) (pc + 2) = .ok (.putfield idx, 3)) (hk1 : 1 ≤ k) (hn1 : N ≤ n) (h : GW g y (k - 1) (n - N) Φ (pc + 2 + 3) L st (M.set r (.inl (0, N, .inl (fun _ => 0))))) : GW g y k n Φ pc L (iv N :: .ref o :: st) M := by
  intro p e R s m args below meth c H locs cells slots ν ν0 n0 ls C hc hs hM hk hn hS hl
  have hG := C.2.2.2.2.2.2.2.2.2.2.2
  have e0 : (Int32.ofInt (N : Int)).toInt = N := toI ⟨by omega, by omega⟩
  have hrl : r < M.length := (List.getElem?_eq_some_iff.mp hMr).1
  have hol : o < M.length := (List.getElem?_eq_some_iff.mp hM0).1
  have hrK : r < KB := hM.lt hMr
  have hlen : (rW g ν M).length = M.length := by unfold rW; simp
  rw [List.map_cons, List.map_cons, st_ref hM hM0]
  refine va_newa C.1 C.2.1 (a0 := (N, .inl (fun _ => 0))) (atype := .int) (C.2.2.2.2.1 _ ac_1_124) rfl hG.1 hM.1 hM.2.1 hS (ge_A hG) (fun _ => rfl) (by intro h9; rw [Int32.lt_iff_toInt_lt, e0] at h9; have h8 : (N : Int) < 0 := h9; omega) (by unfold Int32.toNatClampNeg; rw [e0]; exact Int.toNat_natCast N) (Nat.le_trans (Nat.mul_le_mul_right _ hN) (by decide)) (by omega) (by omega) hd (fun q cA H1 hK hP hD hS1 => ?_)
  have hcA := cls_of (g := g) (t := 0) rfl hK
  subst hcA
  obtain ⟨Cn, T, N9, hC, hkN, hT, hlk⟩ := hf
  have hin : ∀ w ∈ u_ws Cn T N9, w ∈ WS := uws_ok _ (List.mem_of_getElem? hC)
  have hat : (rW g ν M ++ [(q, Sum.inl (gC g 0, N, Sum.inl (fun _ => 0)))])[o]? = some (ν o, .inr (ci, fs.map (rV g ν))) := by
    rw [List.getElem?_append_left (by rw [hlen]; exact hol)]
    exact rW_at hM0
  have hkl : kf < fs.length := (List.getElem?_eq_some_iff.mp hv).1
  have kk1 : ∀ (H2 : Heap) (locs2 : List Loc), va_P (gD g) CL ((rW g ν M ++ [(q, Sum.inl (gC g 0, N, Sum.inl (fun _ => 0)))]).set o (ν o, .inr (ci, (fs.map (rV g ν)).set kf (.ref q)))) H2 → va_D (gA g) ((rW g ν M ++ [(q, Sum.inl (gC g 0, N, Sum.inl (fun _ => 0)))]).set o (ν o, .inr (ci, (fs.map (rV g ν)).set kf (.ref q)))) → va_S (gA g) s.heap H2 locs2 → W p (gL g) e R s m args below meth c H2 locs2 (cells + 1) (slots + N) (vx_MQ below (QC g y ν0 n0 Φ) (XC g y ν0 n0 Φ) args s R.cells R.slots (gA g)) (F0 m (pc + 2 + 3) ls (st.map (rV g ν))) := by
    intro H2 locs2 hP2 hD2 hS2
    have hnr : ∀ (j : Nat) (c' : mC), M[j]? = some c' → j ≠ o → j ≠ r → rC g (nuS ν r q) c' = rC g ν c' := by
      intro j c' hj hjo hjr
      have hokj := hM.2.2.1 j c' hj
      rcases c' with ⟨t, n', x⟩ | ⟨ci', fs'⟩
      · rcases x with f | f | f | f | f
        · rfl
        · rfl
        · rfl
        · rfl
        · show Sum.inl (gC g t, (n', Sum.inr (Sum.inr (Sum.inr (Sum.inr (fun i => (f i).map (rN g (nuS ν r q)))))))) = Sum.inl (gC g t, (n', Sum.inr (Sum.inr (Sum.inr (Sum.inr (fun i => (f i).map (rN g ν)))))))
          refine congrArg (fun z => Sum.inl (gC g t, n', Sum.inr (Sum.inr (Sum.inr (Sum.inr z))))) (funext fun i => ?_)
          cases hi : f i with
          | none => rfl
          | some q' =>
            have h3 := hokj i q' hi
            have h4 : q' ≠ r := fun e9 => by rw [e9, hr] at h3; cases h3.2
            simp only [Option.map_some]
            unfold rN
            rw [nuS_ne h4]
      · show Sum.inr (ci', fs'.map (rV g (nuS ν r q))) = Sum.inr (ci', fs'.map (rV g ν))
        congr 2
        refine List.ext_getElem? fun i => ?_
        rw [List.getElem?_map, List.getElem?_map]
        cases hi : fs'[i]? with
        | none => rfl
        | some v' =>
          refine congrArg some (rV_nuS fun e9 => ?_)
          have h3 := (hokj i v' hi).2 r (o, kf) e9 hr
          exact hjo (congrArg Prod.fst h3).symm
    have hself : rC g (nuS ν r q) (.inr (ci, fs)) = .inr (ci, (fs.map (rV g ν)).set kf (.ref q)) := by
      show Sum.inr (ci, fs.map (rV g (nuS ν r q))) = _
      congr 2
      refine List.ext_getElem? fun i => ?_
      rw [List.getElem?_map, List.getElem?_set, List.getElem?_map]
      by_cases hik : kf = i
      · subst hik
        rw [if_pos rfl, if_pos (by rw [List.length_map]; exact hkl), hv]
        show some (Value.ref (rN g (nuS ν r q) r)) = _
        rw [rN_lt hrK, nuS_eq]
      · rw [if_neg hik]
        cases hi : fs[i]? with
        | none => rfl
        | some v' =>
          refine congrArg some (rV_nuS fun e9 => ?_)
          have h3 := ((hM.2.2.1 o _ hM0) i v' hi).2 r (o, kf) e9 hr
          exact hik (congrArg Prod.snd h3)
    have hW : ∀ j x, (rW g (nuS ν r q) (M.set r (.inl (0, N, .inl (fun _ => 0)))))[j]? = some x → ((rW g ν M ++ [(q, Sum.inl (gC g 0, N, Sum.inl (fun _ => 0)))]).set o (ν o, .inr (ci, (fs.map (rV g ν)).set kf (.ref q))))[if j = r then M.length else j]? = some x := by
      intro j x hj
      rw [rW_get] at hj
      by_cases hjr : j = r
      · subst hjr
        rw [if_pos rfl, List.getElem?_set, if_neg (by omega), List.getElem?_append_right (by rw [hlen]; exact Nat.le_refl _), hlen, Nat.sub_self]
        rw [List.getElem?_set, if_pos rfl, if_pos hrl, Option.map_some, nuS_eq] at hj
        exact hj
      · rw [if_neg hjr, List.getElem?_set]
        rw [List.getElem?_set, if_neg (fun e9 => hjr e9.symm)] at hj
        cases hm : M[j]? with
        | none => rw [hm] at hj; cases hj
        | some c' =>
          have hjl : j < M.length := (List.getElem?_eq_some_iff.mp hm).1
          rw [hm, Option.map_some, nuS_ne hjr] at hj
          by_cases hjo : o = j
          · subst hjo
            rw [if_pos rfl, if_pos (by rw [List.length_append, hlen]; omega)]
            cases hm.symm.trans hM0
            rw [hself] at hj
            exact hj
          · rw [if_neg hjo, List.getElem?_append_left (by rw [hlen]; exact hjl), rW_at hm]
            rw [hnr j c' hm (fun e9 => hjo e9.symm) hjr] at hj
            exact hj
    have hP3 : va_P (gD g) CL (rW g (nuS ν r q) (M.set r (.inl (0, N, .inl (fun _ => 0))))) H2 := fun j x hj => hP2 _ x (hW j x hj)
    have hD3 : va_D (gA g) (rW g (nuS ν r q) (M.set r (.inl (0, N, .inl (fun _ => 0))))) := by
      refine ⟨fun i j x z hi hj e9 => ?_, fun j x hj => hD2.2 _ x (hW j x hj)⟩
      have h5 := hD2.1 _ _ x z (hW i x hi) (hW j z hj) e9
      have hil : i < M.length := by
        have := (List.getElem?_eq_some_iff.mp hi).1
        unfold rW at this
        simpa using this
      have hjl : j < M.length := by
        have := (List.getElem?_eq_some_iff.mp hj).1
        unfold rW at this
        simpa using this
      split at h5 <;> split at h5 <;> omega
    have hM3 : RM g (nuS ν r q) (M.set r (.inl (0, N, .inl (fun _ => 0)))) H2 := ⟨hP3, hD3, okM_set hM.2.2.1 hMr trivial, by rw [List.length_set]; exact hM.2.2.2⟩
    have hkp : kp (yK y) ν0 (nuS ν r q) n0 := by
      refine kp_trans (k2 := 1) (n1 := M.length) hk (fun j hj => nuS_ne (fun e9 => ?_)) hk2 hn
      rw [e9, hr] at hj
      cases hj
    have hkv : kp 1 ν (nuS ν r q) M.length := fun j hj => nuS_ne (fun e9 => by rw [e9, hr] at hj; cases hj)
    have h9 := h p e R s m args below meth c H2 locs2 (cells + 1) (slots + N) (nuS ν r q) ν0 n0 ls C (by omega) (by omega) hM3 hkp (by rw [List.length_set]; exact hn) hS2 (by rw [L_kp hkv hok.1]; exact hl)
    rw [st_kp hkv hok.2] at h9
    exact h9
  have hfit : fits (ty_of ci kf) (.ref q) = true := by rw [hty]; rfl
  have hnar : narrow (ty_of ci kf) (.ref q) = .ref q := by rw [hty]; rfl
  have hK1 := hG.1
  rcases hlk with hlk | ⟨host, hlk⟩
  · exact va_put C.1 C.2.1 C.2.2.2.2.1 hin (ty_of ci) (ty_ok hC) (CL_nm _ (List.mem_of_getElem? hC)) C.2.2.2.1 hK1 hP hD hS1 o hat hC kf hkN (C.2.2.2.2.1 _ hlk) (fun x hx => by rw [hT] at hx; exact hx) (hfin _ _ _ hC) (ty_ok hC kf hkN) hnar hfit (by rw [List.length_map]; exact hkl) hd2 kk1
  · exact va_putN C.1 C.2.1 C.2.2.2.2.1 hin (ty_of ci) (ty_ok hC) (CL_nm _ (List.mem_of_getElem? hC)) C.2.2.2.1 hK1 hP hD hS1 o hat hC kf hkN (va_Nw.use rfl (hG.2.2.1 _ hlk)) (fun x hx => by rw [hT] at hx; exact hx) (hfin _ _ _ hC) (ty_ok hC kf hkN) hnar hfit (by rw [List.length_map]; exact hkl) hd2 kk1
end GN11
