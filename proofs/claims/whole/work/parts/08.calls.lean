/-! Contracts; calls; throws. -/
section GC8
def CW (y : yT) : Cond := match yH y with
  | [] => .code (yN y) (yB y) (yM y) (yR y)
  | hh => .codeWith (yN y) (yB y) (yM y) (yR y) hh
def rmY (y : yT) (k n : Nat) : Room := { frames := yF y, cells := k, slots := n, locals := yL y }
def PcG (g : gT) (as : List Value) (ν : Nat → Nat) (M : mM) : Array Value → State → Prop := fun a U => a = (as.map (rV g ν)).toArray ∧ GK g U U.heap ∧ RM g ν M U.heap
def Rn (g : gT) (y : yT) (k n : Nat) (as : List Value) (M : mM) (Φ : mO → mM → Prop) : Prop :=
  ∀ ν, vx_Met (gL g) (yN y) (CW y :: WS) (rmY y k n) (PcG g as ν M) (QC g y ν M.length Φ) (XC g y ν M.length Φ) k n (gA g)
def entL : List Value → List (Option Value)
  | [] => []
  | v :: vs => if v.category = 2 then some v :: none :: entL vs else some v :: entL vs
theorem entL_mem : ∀ (vs : List Value) (i j : Nat) (v : Value), (entL vs)[j]? = some (some v) → (i + j, v) ∈ lv_args i vs := by
  intro vs
  induction vs with
  | nil => intro i j v h; simp [entL] at h
  | cons a t ih =>
    intro i j v h
    unfold entL at h
    unfold lv_args
    by_cases e : a.category = 2
    · rw [if_pos e] at h ⊢
      rcases j with _ | _ | j
      · cases h; exact List.mem_cons_self
      · cases h
      · refine List.mem_cons_of_mem _ ?_
        have h1 := ih (i + 2) j v h
        rw [show i + (j + 1 + 1) = i + 2 + j from by omega]
        exact h1
    · rw [if_neg e] at h ⊢
      rcases j with _ | j
      · cases h; exact List.mem_cons_self
      · refine List.mem_cons_of_mem _ ?_
        have h1 := ih (i + 1) j v h
        rw [show i + (j + 1) = i + 1 + j from by omega]
        exact h1
theorem entL_len : ∀ (vs : List Value), (lg_sl vs).length = (entL vs).length := by
  intro vs
  induction vs with
  | nil => rfl
  | cons a t ih =>
    unfold entL
    have e1 : lg_sl (a :: t) = (if a.category = 2 then [.val a, .second] else [.val a]) ++ lg_sl t := rfl
    rw [e1, List.length_append, ih]
    by_cases e : a.category = 2
    · rw [if_pos e, if_pos e]; simp; omega
    · rw [if_neg e, if_neg e]; simp; omega
theorem entL_map (g : gT) (ν : Nat → Nat) : ∀ (vs : List Value), entL (vs.map (rV g ν)) = (entL vs).map (fun o => o.map (rV g ν)) := by
  intro vs
  induction vs with
  | nil => rfl
  | cons a t ih =>
    rw [List.map_cons]
    unfold entL
    rw [rV_cat]
    by_cases e : a.category = 2
    · rw [if_pos e, if_pos e, ih]; rfl
    · rw [if_neg e, if_neg e, ih]; rfl
theorem PcG_blind {g : gT} {as : List Value} {ν : Nat → Nat} {M : mM} : FrameBlind (PcG g as ν M) := fun a U fr mk h => ⟨h.1, GK.same (s := U) (U := U.calling fr mk a) (H := U.heap) rfl h.2.1, h.2.2⟩
theorem Rn.of {g : gT} {y : yT} {k n : Nat} {as : List Value} {M : mM} {Φ : mO → mM → Prop} (L : List (Option Value)) (hH : yH y = []) (hp : plainName (yN y).cls = true) (hlen : (entL as).length ≤ yM y) (hL : entL as ++ List.replicate (yM y - (entL as).length) none = L)
    (h : GW g y k n Φ 0 L [] M) : Rn g y k n as M Φ := by
  intro ν
  have hcw : CW y = .code (yN y) (yB y) (yM y) (yR y) := by unfold CW; rw [hH]
  refine vx_ofW (ws' := WS) hp (by rw [hcw]) ?_
  intro p e s m args below meth c s₁ B hml htab hP
  obtain ⟨rfl, hG, hM⟩ := hP
  have hpre := atoms_spec (ws := CW y :: WS) B.pre
  have ht : c.exceptionTable.toList = tableOf (yH y) := by
    rw [hH]
    cases h9 : c.exceptionTable.toList with
    | nil => rfl
    | cons x t => exact absurd (htab x (by rw [h9]; exact List.mem_cons_self)) id
  have C : Cx g y p (rmY y k n) s m (as.map (rV g ν)).toArray meth c :=
    ⟨B.exec, B.bytes, hml, findClass_of_methodNamed B.named, fun w hw => hpre w (List.mem_cons_of_mem _ hw), B.returns, B.notSynchronized, (name_of_methodNamed B.named B.method).1, Nat.le_refl _, Nat.le_refl _, ht, hG⟩
  have hlen2 : (lg_sl (as.map (rV g ν))).length ≤ yM y := by rw [entL_len, entL_map, List.length_map]; exact hlen
  have hent := lv_entry (as.map (rV g ν)) hlen2
  rw [lg_entry_eq]
  refine h p e (rmY y k n) s m _ below meth c s.heap [] 0 0 ν ν M.length _ C (by rw [Nat.zero_add]; exact Nat.le_refl _) (by rw [Nat.zero_add]; exact Nat.le_refl _) hM ?_ (Nat.le_refl _) va_S.rf (lv_mono ?_ hent)
  · rcases yK y with _ | _ | _
    · rfl
    · intro _ _; rfl
    · intro _ _ _; rfl
  · rintro ⟨i, w⟩ hq
    obtain ⟨u, h1, h2⟩ := mem_rL.mp hq
    have h3 := mem_lvE.mp h1
    rw [← hL] at h3
    dsimp only at h2 h3
    by_cases hi : i < (entL as).length
    · rw [List.getElem?_append_left hi] at h3
      have h4 : (entL (as.map (rV g ν)))[i]? = some (some w) := by rw [entL_map, List.getElem?_map, h3, ← h2]; rfl
      have h5 := entL_mem _ 0 i w h4
      rw [Nat.zero_add] at h5
      exact h5
    · rw [List.getElem?_append_right (Nat.not_lt.mp hi), List.getElem?_replicate] at h3
      split at h3 <;> cases h3
theorem GK.at {g : gT} {s U : State} {H : Heap} {locs : List Loc} (h : GK g s s.heap) (hS : va_S (gA g) s.heap H locs) (hU : U.heap = H) (hW : s.WarmedH U.vm) : GK g U U.heap := by
  rw [hU]
  exact GK.warm hW (h.kept hS.1 hS.2.1)
section Run
variable {p : Program} {e : Env} {R : Room} {s : State} {m : MethodId} {args : Array Value} {below : List Frame} {meth : Method} {c : Code} {H : Heap} {locs : List Loc} {cells slots : Nat} {Q : State → Prop} {pc : Nat} {ls : Array Slot} {st0 rest : List Value}
theorem g_run {g : gT} {y2 : yT} {ν : Nat → Nat} {n1 k2 n2 : Nat} {Φ2 : mO → mM → Prop} {a : Array Value} (hr : vx_Run p (gL g) e R s m args below meth c H locs cells slots k2 n2 (F0 m pc ls st0) rest (QC g y2 ν n1 Φ2 a) (XC g y2 ν n1 Φ2) (gA g)) (hS : va_S (gA g) s.heap H locs)
    (kk : ∀ (v : Option Value) (M' : mM) (ν' : Nat → Nat) (H1 : Heap) (locs1 : List Loc), Φ2 (.inl v) M' → RM g ν' M' H1 → kp (yK y2) ν ν' n1 → n1 ≤ M'.length → va_S (gA g) s.heap H1 locs1 → W p (gL g) e R s m args below meth c H1 locs1 (cells + k2) (slots + n2) Q (F0 m (pc + 3) ls ((v.map (rV g ν')).toList ++ rest)))
    (kx : ∀ (e9 : Nat) (M' : mM) (ν' : Nat → Nat) (H1 : Heap) (locs1 : List Loc) (q : Nat) (ce : Cell), Φ2 (.inr e9) M' → RM g ν' M' H1 → kp (yK y2) ν ν' n1 → n1 ≤ M'.length → va_S (gA g) s.heap H1 locs1 → H1[q]? = some ce → ce.vm = .none → s.vm.findClass (XN e9) = some ce.cls → vx_W p (gL g) e R s m args below meth c H1 locs1 (cells + k2) (slots + n2) Q (F0 m pc ls rest) q) :
    W p (gL g) e R s m args below meth c H locs cells slots Q (F0 m pc ls st0) := by
  intro T hT X
  rcases hr T hT X with ⟨v, st₀, t, T', L, h0, X', hL, e1, e2, ⟨v', M', ν', hv, hΦ, hM, hk, hn, hF⟩, st⟩ | ⟨q, st₀, t, T', L, E, ce, h0, X', hL, e1, e2, ⟨e9, M', ν', hv, hΦ, hM, hk, hn, hF⟩, hce, hcv, hcl, st⟩
  · cases hv
    obtain ⟨k1, k2', k3⟩ := vx_keep (A1 := gA g) h0 e1 hS (fun _ _ h => h) (fun _ h => h) hL hF
    obtain ⟨t2, a1, b1⟩ := kk v' M' ν' T'.heap (locs ++ L) hΦ (by rw [e1]; exact hM) hk hn k3 T' rfl X'
    exact ⟨t2, st t2 a1, b1⟩
  · obtain ⟨k1, k2', k3⟩ := vx_keep (A1 := gA g) h0 e1 hS (fun _ _ h => h) (fun _ h => h) hL hF
    subst hv
    obtain ⟨t2, a1, b1⟩ := kx e9 M' ν' T'.heap (locs ++ L) q ce hΦ (by rw [e1]; exact hM) hk hn k3 (by rw [e1]; exact hce) hcv hcl T' rfl X'
    exact ⟨t2, st.trans a1, b1⟩
end Run
def okY (y2 : yT) (na : Nat) : Prop := yH y2 = [] ∧ Cond.code (yN y2) (yB y2) (yM y2) (yR y2) ∈ WS ∧ Cond.initialized (yN y2).cls ∈ WS ∧ (yN y2).cls ≠ "java/lang/invoke/MethodHandle" ∧ (yN y2).cls ≠ "java/lang/invoke/VarHandle" ∧ (parseMethodDescriptor (yN y2).desc).map (fun d => d.parameters.length) = some na
def okI (y2 : yT) : Prop := Cond.instanceMethod (yN y2) ∈ WS ∧ Cond.selects (yN y2).cls (yN y2) (yN y2) ∈ WS
def okN (y2 : yT) : Prop := Cond.instanceMethod (yN y2) ∈ WS ∧ (yN y2).name = "<init>" ∧ yR y2 = none
def okT (y2 : yT) : Prop := Cond.static (yN y2) ∈ WS
def LK (own : String) (idx : Nat) (nm : MethodName) : Prop := Cond.methodLink own idx nm ∈ WS ∨ ∃ host, Cond.methodLinkNest own idx nm host ∈ NW
variable {g : gT} {y : yT} {k n : Nat} {Φ : mO → mM → Prop} {pc : Nat} {L : List (Option Value)} {st : List Value} {M : mM}
def fitY (y y2 : yT) : Bool := decide (yF y2 + 1 ≤ yF y) && decide (8 + (yM y2 + 11) + yL y2 ≤ yL y) && decide (yK y2 ≤ yK y)
theorem fitY_of {y y2 : yT} (h : fitY y y2 = true) : yF y2 + 1 ≤ yF y ∧ 8 + (yM y2 + 11) + yL y2 ≤ yL y ∧ yK y2 ≤ yK y := by
  simp only [fitY, Bool.and_eq_true, decide_eq_true_eq] at h
  exact ⟨h.1.1, h.1.2, h.2⟩
def okF (y2 : yT) (len : Nat) (L : List (Option Value)) (st : List Value) : Prop := yK y2 = 0 ∨ (okL len L ∧ okS len st)
theorem Cx_fix {p : Program} {R : Room} {s : State} {m : MethodId} {args : Array Value} {meth : Method} {c : Code} (C : Cx g y p R s m args meth c) : CallFix p m c (yB y) (yM y) s args WS (yN y).cls := ⟨C.1, C.2.1, C.2.2.1, C.2.2.2.1, C.2.2.2.2.1⟩
theorem room_cat {g : gT} {ν : Nat → Nat} {m : MethodId} {pc : Nat} {ls : Array Slot} {st0 : List Value} {st : List Value} (h : (st.map fun v => v.category).sum ≤ 8) : 2 * (F0 m pc ls st0).monitorRoom + ((st.map (rV g ν)).map fun v => v.category).sum ≤ 8 := by
  have e1 : (st.map (rV g ν)).map (fun v => v.category) = st.map (fun v => v.category) := by
    rw [List.map_map]
    exact List.map_congr_left fun v _ => rV_cat g ν v
  rw [e1]
  exact lv_room h
/-- behind any kind of call -/
theorem g_after {y2 : yT} {k2 n2 : Nat} {Φ2 : mO → mM → Prop} {st0 : List Value} (hk2 : k2 ≤ k) (hn2 : n2 ≤ n) (hK : yK y2 ≤ yK y) (hok : okF y2 M.length L st)
    (hrun : ∀ (p : Program) (e : Env) (R : Room) (s : State) (m : MethodId) (args : Array Value) (below : List Frame) (meth : Method) (c : Code) (H : Heap) (locs : List Loc) (cells slots : Nat) (ν : Nat → Nat) (ls : Array Slot), Cx g y p R s m args meth c → cells + k2 ≤ R.cells → slots + n2 ≤ R.slots → RM g ν M H → va_S (gA g) s.heap H locs → ls.size = yM y → ∃ a, vx_Run p (gL g) e R s m args below meth c H locs cells slots k2 n2 (F0 m pc ls (st0.map (rV g ν))) (st.map (rV g ν)) (QC g y2 ν M.length Φ2 a) (XC g y2 ν M.length Φ2) (gA g))
    (kr : ∀ v M', Φ2 (.inl v) M' → GW g y (k - k2) (n - n2) Φ (pc + 3) L (v.toList ++ st) M')
    (kx : ∀ e M', Φ2 (.inr e) M' → yH y = [] ∧ Φ (.inr e) M') : GW g y k n Φ pc L st0 M := by
  intro p e R s m args below meth c H locs cells slots ν ν0 n0 ls C hc hs hM hk hn hS hl
  obtain ⟨a, hr⟩ := hrun p e R s m args below meth c H locs cells slots ν ls C (by omega) (by omega) hM hS hl.1
  have conv : ∀ ν', kp (yK y2) ν ν' M.length → rL g ν' (lvE L) = rL g ν (lvE L) ∧ st.map (rV g ν') = st.map (rV g ν) := by
    intro ν' h
    rcases hok with h0 | ⟨h1, h2⟩
    · rw [h0] at h
      rw [show ν' = ν from h]
      exact ⟨rfl, rfl⟩
    · exact ⟨L_kp h h1, st_kp h h2⟩
  refine g_run hr hS (fun v M' ν' H1 locs1 hΦ hM1 hk1 hn1 hS1 => ?_) (fun e9 M' ν' H1 locs1 q ce hΦ hM1 hk1 hn1 hS1 hce hcv hcl => ?_)
  · obtain ⟨c1, c2⟩ := conv ν' hk1
    have h9 := kr v M' hΦ p e R s m args below meth c H1 locs1 (cells + k2) (slots + n2) ν' ν0 n0 ls C (by omega) (by omega) hM1 (kp_trans hk hk1 hK hn) (Nat.le_trans hn hn1) hS1 (by rw [c1]; exact hl)
    have e2 : (v.toList ++ st).map (rV g ν') = (v.map (rV g ν')).toList ++ st.map (rV g ν) := by
      rw [List.map_append, c2]
      cases v <;> rfl
    rw [e2] at h9
    exact h9
  · obtain ⟨hyH, hΦx⟩ := kx e9 M' hΦ
    have htab := C.2.2.2.2.2.2.2.2.2.2.1
    refine vx_out (mc := R.cells) (ms := R.slots) (by rw [htab, hyH]; intro x hx; cases hx) C.2.2.2.2.2.2.1 hce hcv hcl (fun t ht _ => ?_) hS1.2.2 (by omega) (by omega)
    exact ⟨e9, M', ν', rfl, hΦx, by rw [ht]; exact hM1, kp_trans hk hk1 hK hn, Nat.le_trans hn hn1, hS1.F ht⟩
theorem code_in {y2 : yT} (h : yH y2 = []) : CW y2 = .code (yN y2) (yB y2) (yM y2) (yR y2) := by unfold CW; rw [h]
theorem good_cons {y2 : yT} {na : Nat} (h : okY y2 na) : GoodIn WS (CW y2 :: WS) := by
  intro w hw
  rcases List.mem_cons.mp hw with rfl | h1
  · rw [code_in h.1]; exact WS_good _ h.2.1
  · exact WS_good _ h1
theorem callB_G {y2 : yT} {na k2 n2 idx : Nat} {p : Program} {R : Room} {s : State} {m : MethodId} {args : Array Value} {meth : Method} {c : Code} (C : Cx g y p R s m args meth c) (hy : okY y2 na) (hF : fitY y y2 = true) (hl : Cond.methodLink (yN y).cls idx (yN y2) ∈ WS) :
    CallB R s args (yN y).cls idx (yN y2) (yB y2) (yM y2) (yR y2) (CW y2 :: WS) (rmY y2 k2 n2) k2 n2 na := by
  have hw := C.2.2.2.2.1
  have hf := fitY_of hF
  have h1 : yF y ≤ R.frames := C.2.2.2.2.2.2.2.2.1
  have h2 : yL y ≤ R.locals := C.2.2.2.2.2.2.2.2.2.1
  exact callB_of na hw (good_cons hy) (by rw [code_in hy.1]) rfl rfl (hw _ hy.2.2.1) (hw _ hl) hy.2.2.2 ⟨Nat.le_trans hf.1 h1, Nat.le_trans hf.2.1 h2⟩
theorem callN_G {y2 : yT} {na k2 n2 idx : Nat} {host : String} {p : Program} {R : Room} {s : State} {m : MethodId} {args : Array Value} {meth : Method} {c : Code} (C : Cx g y p R s m args meth c) (hy : okY y2 na) (hF : fitY y y2 = true) (hl : Cond.methodLinkNest (yN y).cls idx (yN y2) host ∈ NW) :
    va_CN R s args (yN y).cls idx (yN y2) host (yB y2) (yM y2) (yR y2) (CW y2 :: WS) (rmY y2 k2 n2) k2 n2 na := by
  have hw := C.2.2.2.2.1
  have hf := fitY_of hF
  have h1 : yF y ≤ R.frames := C.2.2.2.2.2.2.2.2.1
  have h2 : yL y ≤ R.locals := C.2.2.2.2.2.2.2.2.2.1
  have hG := C.2.2.2.2.2.2.2.2.2.2.2
  exact va_cnB na hw (good_cons hy) (by rw [code_in hy.1]) rfl rfl (hG.2.2.1 _ hl) (hw _ hy.2.2.1) hy.2.2.2 ⟨Nat.le_trans hf.1 h1, Nat.le_trans hf.2.1 h2⟩
theorem g_callV {y2 : yT} {idx k2 n2 b ci : Nat} {fs : List Value} {As : List Value} {Φ2 : mO → mM → Prop} (hR : Rn g y2 k2 n2 (.ref b :: As) M Φ2) (hM0 : M[b]? = some (.inr (ci, fs))) (hci : (CL[ci]?).map (·.1) = some (yN y2).cls) (hy : okY y2 As.length) (hI : okI y2) (hlk : LK (yN y).cls idx (yN y2)) (hF : fitY y y2 = true) (hd : decode (yB y) pc = .ok (.invokevirtual idx, 3)) (hk2 : k2 ≤ k) (hn2 : n2 ≤ n) (hcat : (st.map fun v => v.category).sum ≤ 8) (hok : okF y2 M.length L st)
    (kr : ∀ v M', Φ2 (.inl v) M' → GW g y (k - k2) (n - n2) Φ (pc + 3) L (v.toList ++ st) M')
    (kx : ∀ e M', Φ2 (.inr e) M' → yH y = [] ∧ Φ (.inr e) M') : GW g y k n Φ pc L (As.reverse ++ .ref b :: st) M := by
  refine g_after (y2 := y2) hk2 hn2 (fitY_of hF).2.2 hok (fun p e R s m args below meth c H locs cells slots ν ls C hc hs hM hS hsz => ?_) kr kx
  have hG := C.2.2.2.2.2.2.2.2.2.2.2
  have hw := C.2.2.2.2.1
  have hat := rW_at (g := g) (ν := ν) hM0
  obtain ⟨q, hq⟩ : ∃ q, CL[ci]? = some q := by
    cases h : CL[ci]? with
    | none => rw [h] at hci; cases hci
    | some q => exact ⟨q, rfl⟩
  have hqc : q.1 = (yN y2).cls := by rw [hq] at hci; exact Option.some.inj hci
  have hrec := va_recv hG.1 hM.1 hq hat
  rw [hqc] at hrec
  have hpre : PreV s H (yN y2).cls (ν b) (PcG g (.ref b :: As) ν M) (As.map (rV g ν)) := ⟨PcG_blind, hrec, fun U hU hW => ⟨by rw [List.map_cons, st_ref hM hM0], hG.at hS hU hW, by rw [hU]; exact hM⟩⟩
  have hst : (As.reverse ++ .ref b :: st).map (rV g ν) = (As.map (rV g ν)).reverse ++ .ref (ν b) :: st.map (rV g ν) := by
    rw [List.map_append, List.map_reverse, List.map_cons, st_ref hM hM0]
  rcases hlk with hlk | ⟨host, hlk⟩
  · exact ⟨_, vx_runV (Cx_fix C) (hR ν) ⟨callB_G C hy hF hlk, hw _ hI.1, hw _ hI.2⟩ hpre rfl (by rw [List.length_map]) hsz hst (room_cat hcat) hd ⟨hc, hs⟩⟩
  · exact ⟨_, vx_runVN (Cx_fix C) (hR ν) ⟨callN_G C hy hF hlk, hw _ hI.1, hw _ hI.2⟩ hpre rfl (by rw [List.length_map]) hsz hst (room_cat hcat) hd ⟨hc, hs⟩⟩
theorem g_callI {y2 : yT} {idx k2 n2 b ci : Nat} {fs : List Value} {As : List Value} {Φ2 : mO → mM → Prop} (hR : Rn g y2 k2 n2 (.ref b :: As) M Φ2) (hM0 : M[b]? = some (.inr (ci, fs))) (hy : okY y2 As.length) (hI : okN y2) (hlk : LK (yN y).cls idx (yN y2)) (hF : fitY y y2 = true) (hd : decode (yB y) pc = .ok (.invokespecial idx, 3)) (hk2 : k2 ≤ k) (hn2 : n2 ≤ n) (hcat : (st.map fun v => v.category).sum ≤ 8) (hok : okF y2 M.length L st)
    (kr : ∀ v M', Φ2 (.inl v) M' → GW g y (k - k2) (n - n2) Φ (pc + 3) L (v.toList ++ st) M')
    (kx : ∀ e M', Φ2 (.inr e) M' → yH y = [] ∧ Φ (.inr e) M') : GW g y k n Φ pc L (As.reverse ++ .ref b :: st) M := by
  refine g_after (y2 := y2) hk2 hn2 (fitY_of hF).2.2 hok (fun p e R s m args below meth c H locs cells slots ν ls C hc hs hM hS hsz => ?_) kr kx
  have hG := C.2.2.2.2.2.2.2.2.2.2.2
  have hw := C.2.2.2.2.1
  have hat := rW_at (g := g) (ν := ν) hM0
  have hpre : PreS s H (PcG g (.ref b :: As) ν M) (.ref (ν b) :: As.map (rV g ν)) := ⟨PcG_blind, fun U hU hW => ⟨by rw [List.map_cons, st_ref hM hM0], hG.at hS hU hW, by rw [hU]; exact hM⟩⟩
  have hst : (As.reverse ++ .ref b :: st).map (rV g ν) = (As.map (rV g ν)).reverse ++ .ref (ν b) :: st.map (rV g ν) := by
    rw [List.map_append, List.map_reverse, List.map_cons, st_ref hM hM0]
  have hret := hI.2.2
  rcases hlk with hlk | ⟨host, hlk⟩
  · exact ⟨_, vx_runI (Cx_fix C) (hR ν) ⟨hret ▸ callB_G C hy hF hlk, hI.2.1, hw _ hI.1⟩ hpre rfl (by rw [List.length_map]) hsz hst (room_cat hcat) hd ⟨hc, hs⟩⟩
  · exact ⟨_, vx_runIN (Cx_fix C) (hR ν) ⟨hret ▸ callN_G C hy hF hlk, hI.2.1, hw _ hI.1⟩ hpre rfl (by rw [List.length_map]) hsz hst (room_cat hcat) hd ⟨hc, hs⟩⟩
theorem g_callS {y2 : yT} {idx k2 n2 : Nat} {As : List Value} {Φ2 : mO → mM → Prop} (hR : Rn g y2 k2 n2 As M Φ2) (hy : okY y2 As.length) (hI : okT y2) (hlk : LK (yN y).cls idx (yN y2)) (hF : fitY y y2 = true) (hd : decode (yB y) pc = .ok (.invokestatic idx, 3)) (hk2 : k2 ≤ k) (hn2 : n2 ≤ n) (hcat : (st.map fun v => v.category).sum ≤ 8) (hok : okF y2 M.length L st)
    (kr : ∀ v M', Φ2 (.inl v) M' → GW g y (k - k2) (n - n2) Φ (pc + 3) L (v.toList ++ st) M')
    (kx : ∀ e M', Φ2 (.inr e) M' → yH y = [] ∧ Φ (.inr e) M') : GW g y k n Φ pc L (As.reverse ++ st) M := by
  refine g_after (y2 := y2) hk2 hn2 (fitY_of hF).2.2 hok (fun p e R s m args below meth c H locs cells slots ν ls C hc hs hM hS hsz => ?_) kr kx
  have hG := C.2.2.2.2.2.2.2.2.2.2.2
  have hw := C.2.2.2.2.1
  have hpre : PreS s H (PcG g As ν M) (As.map (rV g ν)) := ⟨PcG_blind, fun U hU hW => ⟨rfl, hG.at hS hU hW, by rw [hU]; exact hM⟩⟩
  have hst : (As.reverse ++ st).map (rV g ν) = (As.map (rV g ν)).reverse ++ st.map (rV g ν) := by
    rw [List.map_append, List.map_reverse]
  rcases hlk with hlk | ⟨host, hlk⟩
  · exact ⟨_, vx_runS (Cx_fix C) (hR ν) ⟨callB_G C hy hF hlk, hw _ hI⟩ hpre rfl (by rw [List.length_map]) hsz hst (room_cat hcat) hd ⟨hc, hs⟩⟩
  · exact ⟨_, vx_runSN (Cx_fix C) (hR ν) ⟨callN_G C hy hF hlk, hw _ hI, trivial⟩ hpre rfl (by rw [List.length_map]) hsz hst (room_cat hcat) hd ⟨hc, hs⟩⟩
/-! throws: new E(); throw -/
abbrev exN : List String := ["java/lang/RuntimeException", "java/lang/Exception"]
def okX (own : String) (e ik ic : Nat) : Prop := Cond.classLink own ik (XN e) ∈ WS ∧ Cond.initialized (XN e) ∈ WS ∧ ∀ w ∈ vx_at0 own ic (XN e) exN, w ∈ WS ∨ w ∈ NW
theorem ot_of_WS {w : Cond} (h : w ∈ WS) : vx_ot w = true := by
  unfold vx_ot
  rw [(List.mem_filter.mp h).2, Bool.or_true]
theorem g_throw {E ik ic : Nat} (hX : okX (yN y).cls E ik ic) (hyH : yH y = []) (hroom : 5 < yF y ∧ 81 + (st.map fun v => v.category).sum ≤ yL y)
    (d0 : decode (yB y) pc = .ok (.new ik, 3)) (d3 : decode (yB y) (pc + 3) = .ok (.dup, 1)) (d4 : decode (yB y) (pc + 4) = .ok (.invokespecial ic, 3)) (d7 : decode (yB y) (pc + 7) = .ok (.athrow, 1)) (hk1 : 1 ≤ k) (hn6 : 6 ≤ n) (h : Φ (.inr E) M) : GW g y k n Φ pc L st M := by
  intro p e R s m args below meth c H locs cells slots ν ν0 n0 ls C hc hs hM hk hn hS hl
  have hG := C.2.2.2.2.2.2.2.2.2.2.2
  have hw := C.2.2.2.2.1
  have htab := C.2.2.2.2.2.2.2.2.2.2.1
  have h1 : yF y ≤ R.frames := C.2.2.2.2.2.2.2.2.1
  have h2 : yL y ≤ R.locals := C.2.2.2.2.2.2.2.2.2.1
  have hcat : ((st.map (rV g ν)).map fun v => v.category).sum = (st.map fun v => v.category).sum := by
    rw [List.map_map]
    exact congrArg List.sum (List.map_congr_left fun v _ => rV_cat g ν v)
  refine vx_throw0 (names := exN) (cls := XN E) C.1 C.2.1 hG.2.2.2.1 C.2.2.2.1 (by unfold XN; split <;> decide) (by decide) (hw _ hX.1) (hw _ hX.2.1) (fun w h9 => (hX.2.2 w h9).elim (fun h => hw _ h) (fun h => va_Nw.use (nest_tabs (NW_nest h)) (hG.2.2.1 _ h)))
    (fun w h9 => by
      rcases List.mem_cons.mp h9 with rfl | h9
      · exact ot_of_WS hX.1
      · rcases List.mem_cons.mp h9 with rfl | h9
        · exact ot_of_WS hX.2.1
        · exact (hX.2.2 w h9).elim ot_of_WS (fun h => by unfold vx_ot; rw [nest_tabs (NW_nest h), Bool.true_or]))
    hG.2.2.2.2.2.2.1 hG.2.2.2.2.2.2.2.1 hS (hl.1.trans C.2.2.1.symm) d0 d3 d4 d7 (by rw [htab, hyH]; intro x hx; cases hx) (by show 2 + 3 < R.frames; omega) (by rw [hcat]; show _ + (13 * (2 + 1) + 42) ≤ _; omega) (by omega) (by omega) C.2.2.2.2.2.2.1 (fun t hA hz hq => ?_) hS.2.2 (by omega) (by omega)
  have hP1 : va_P (gD g) CL (rW g ν M) t.heap := hM.1.kept (fun k9 q9 h9 => hq q9.1 (vx_lt hM.1 h9))
  exact ⟨E, M, ν, rfl, h, ⟨hP1, hM.2⟩, hk, hn, ⟨Nat.le_trans hS.1 hz, fun q h3 h4 => by rw [hq q (Nat.lt_of_lt_of_le h3 hS.1)]; exact hS.2.1 q h3 h4⟩⟩
theorem okX_of {own : String} {e ik ic : Nat} (h : (Cond.classLink own ik (XN e) ∈ tables_1 ∧ goodWord (Cond.classLink own ik (XN e)) = true) ∧ (Cond.initialized (XN e) ∈ tables_1 ∧ goodWord (Cond.initialized (XN e)) = true) ∧ ∀ w ∈ vx_at0 own ic (XN e) exN, w ∈ tables_1 ∧ (goodWord w = true ∨ isNest w = true)) : okX own e ik ic :=
  ⟨t_of h.1.1 h.1.2, t_of h.2.1.1 h.2.1.2, fun w hw => (h.2.2 w hw).2.elim (fun h1 => Or.inl (t_of (h.2.2 w hw).1 h1)) (fun h1 => Or.inr (NW_of (h.2.2 w hw).1 h1))⟩
theorem okX_IAE5 : okX RX5 0 287 289 := okX_of (by decide +kernel)
theorem okX_IOB5 : okX RX5 1 319 321 := okX_of (by decide +kernel)
end GC8
