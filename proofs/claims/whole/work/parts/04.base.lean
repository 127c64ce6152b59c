/-! A mini memory over the machine: cells by names (places in a list), references by names. -/
section GB
abbrev mC : Type := (Nat × vp_A) ⊕ (Nat × List Value)
abbrev mM : Type := List mC
abbrev mO : Type := Option Value ⊕ Nat
/-- launch; class ids and field places; array classes; base; constants' addresses; the script's length and ints -/
abbrev gT : Type := Launch × va_G × (Nat → ClassId) × Nat × (Nat → Nat) × Nat × (Nat → Int32)
abbrev gL (g : gT) : Launch := g.1
abbrev gD (g : gT) : va_G := g.2.1
abbrev gC (g : gT) : Nat → ClassId := g.2.2.1
abbrev gB (g : gT) : Nat := g.2.2.2.1
abbrev gk (g : gT) : Nat → Nat := g.2.2.2.2.1
abbrev gN (g : gT) : Nat := g.2.2.2.2.2.1
abbrev gX (g : gT) : Nat → Int32 := g.2.2.2.2.2.2
def gA (g : gT) : Nat → Prop := fun q => gB g ≤ q
/-- a method: name, code, locals, return type, frames below, locals' room, kind (0: no names move; 1: those of growing rows may; 2: it makes cells), handlers -/
abbrev yT : Type := MethodName × ByteArray × Nat × Option FieldType × Nat × Nat × Nat × List (Nat × Nat × Nat × Nat)
abbrev yN (y : yT) : MethodName := y.1
abbrev yB (y : yT) : ByteArray := y.2.1
abbrev yM (y : yT) : Nat := y.2.2.1
abbrev yR (y : yT) : Option FieldType := y.2.2.2.1
abbrev yF (y : yT) : Nat := y.2.2.2.2.1
abbrev yL (y : yT) : Nat := y.2.2.2.2.2.1
abbrev yK (y : yT) : Nat := y.2.2.2.2.2.2.1
abbrev yH (y : yT) : List (Nat × Nat × Nat × Nat) := y.2.2.2.2.2.2.2
abbrev CL : List vw_C := [(RX0, TX0, 7), (RX1, TX1, 7), (RX2, TX2, 12), (RX3, TX3, 16), (RX4, TX4, 6), (RX5, TX5, 16), (RX6, TX6, 26)]
def WS : List Cond := lw_tbl.filter goodWord
def isNest : Cond → Bool
  | .fieldLinkNest _ _ _ _ _ _ => true
  | .methodLinkNest _ _ _ _ => true
  | .castable _ _ => true
  | .declares _ => true
  | _ => false
def NW : List Cond := tables_1.filter isNest
def KB : Nat := 1000000
/-- the rows that are made anew: the field that holds each -/
def ownr (n : Nat) : Option (Nat × Nat) :=
  if 18 ≤ n ∧ n ≤ 22 then some (17, n - 17) else if 29 ≤ n ∧ n ≤ 31 then some (24, n - 25) else if 37 ≤ n ∧ n ≤ 39 then some (32, n - 33) else if 44 ≤ n ∧ n ≤ 45 then some (40, n - 40) else if 50 ≤ n ∧ n ≤ 51 then some (46, n - 46) else none
theorem ownr_big {n : Nat} (h : 52 ≤ n) : ownr n = none := by
  unfold ownr
  rw [if_neg (by omega), if_neg (by omega), if_neg (by omega), if_neg (by omega), if_neg (by omega)]
def g_tys (g : gT) : List (ClassId × FieldType) := [(gC g 0, .int), (gC g 1, .long), (gC g 2, .boolean), (gC g 3, .double), (gC g 4, .object "HoleWhistle$State")]
def rN (g : gT) (ν : Nat → Nat) (n : Nat) : Nat := if n < KB then ν n else gk g (n - KB)
def rV (g : gT) (ν : Nat → Nat) : Value → Value
  | .ref n => .ref (rN g ν n)
  | v => v
def rA (g : gT) (ν : Nat → Nat) : vp_A → vp_A
  | (n, .inr (.inr (.inr (.inr f)))) => (n, .inr (.inr (.inr (.inr (fun j => (f j).map (rN g ν))))))
  | a => a
def rC (g : gT) (ν : Nat → Nat) : mC → va_E
  | .inl (t, a) => .inl (gC g t, rA g ν a)
  | .inr (c, fs) => .inr (c, fs.map (rV g ν))
def rW (g : gT) (ν : Nat → Nat) (M : mM) : va_W := M.mapIdx (fun n c => (ν n, rC g ν c))
def rL (g : gT) (ν : Nat → Nat) (L : List (Nat × Value)) : List (Nat × Value) := L.map (fun q => (q.1, rV g ν q.2))
/-- closed: what a cell refers to is there, or is a constant; a growing row is held by its own field alone -/
def cV (len : Nat) : Value → Bool
  | .ref n => decide (n < len) || decide (KB ≤ n)
  | _ => true
def okC (a len : Nat) : mC → Prop
  | .inl (_, _, .inr (.inr (.inr (.inr f)))) => ∀ j q, f j = some q → q < len ∧ ownr q = none
  | .inl _ => True
  | .inr (_, fs) => ∀ k v, fs[k]? = some v → cV len v = true ∧ ∀ q o, v = .ref q → ownr q = some o → o = (a, k)
def okM (M : mM) : Prop := ∀ a c, M[a]? = some c → okC a M.length c
def RM (g : gT) (ν : Nat → Nat) (M : mM) (H : Heap) : Prop := va_P (gD g) CL (rW g ν M) H ∧ va_D (gA g) (rW g ν M) ∧ okM M ∧ M.length ≤ KB
def kp (k : Nat) (ν0 ν : Nat → Nat) (n0 : Nat) : Prop := match k with
  | 0 => ν = ν0
  | 1 => ∀ n, ownr n = none → ν n = ν0 n
  | _ => ∀ n, n < n0 → ownr n = none → ν n = ν0 n
abbrev STN : List (String × Nat × String × Nat) := [("HoleWhistle$Reader", 117, "whistle", 0), ("HoleWhistle$Reader", 134, "hole", 1), ("HoleWhistle$Reader", 139, "limit", 2), ("HoleWhistle$Reader", 144, "cost", 3), ("HoleWhistle$Reader", 149, "tune", 4), ("HoleWhistle$Reader", 190, "rest", 5), ("HoleWhistleModel", 244, "whistle", 0), ("HoleWhistleModel", 256, "hole", 1), ("HoleWhistleModel", 261, "limit", 2), ("HoleWhistleModel", 263, "cost", 3), ("HoleWhistleModel", 265, "tune", 4), ("HoleWhistleModel", 273, "rest", 5)]
abbrev STL : List Nat := [7, 4, 5, 4, 4, 4]
abbrev STB : List (List Int32) := [[119, 104, 105, 115, 116, 108, 101], [104, 111, 108, 101], [108, 105, 109, 105, 116], [99, 111, 115, 116], [116, 117, 110, 101], [114, 101, 115, 116]]
/-- the formatter: none, or a cell that has a name -/
def zF (g : gT) (U : State) (H : Heap) : Prop := (va_Z "jdk/internal/util/Preconditions" "SIOOBE_FORMATTER" "Ljava/util/function/BiFunction;" .null (gA g) U H ∨ va_Z "jdk/internal/util/Preconditions" "SIOOBE_FORMATTER" "Ljava/util/function/BiFunction;" (.ref (gk g 14)) (gA g) U H) ∧ va_Nc "java/lang/IllegalArgumentException" "java/lang/IndexOutOfBoundsException" U
/-- what the tables and the cells below the base say, of a state with heap H -/
def GK (g : gT) (U : State) (H : Heap) : Prop :=
  va_K (gD g) CL (g_tys g) U ∧ gB g ≤ H.size ∧ (∀ w ∈ NW, va_Nw w U) ∧ (gL g).stackTraces = false ∧
  va_Z "HoleWhistle" "POWERS" "[I" (.ref (gk g 0)) (gA g) U H ∧ va_T .int (gk g 0) 8 (fun j => .int (Int32.ofInt ((3 : Int) ^ j))) (gA g) U H ∧
  vx_Zq Bundle.tN "UNASSIGNED_STACK" Bundle.steD (gA g) U H ∧ vx_Zq Bundle.tN "SUPPRESSED_SENTINEL" Bundle.listD (gA g) U H ∧
  va_X (gk g 1) (gN g) (gX g) U H ∧ gk g 1 < gB g ∧
  vk_S 6 STL STB (fun i => gk g (2 + i)) (fun i => gk g (8 + i)) (gA g) U H ∧ (∀ q ∈ STN, vk_R q.1 q.2.1 q.2.2.1 (gk g (2 + q.2.2.2)) U) ∧
  va_Z "java/lang/String" "COMPACT_STRINGS" "Z" (.int 1) (gA g) U H ∧ zF g U H ∧ va_AO "HoleWhistle$State" U
theorem nest_warm {w : Cond} (hn : isNest w = true) {s U : State} (hW : s.WarmedH U.vm) (h : va_Nw w s) : va_Nw w U := by
  cases w <;> first | exact va_Nw.warmF hW h | exact va_Nw.warmM hW h | exact va_Nw.warmC hW h | exact va_Nw.warmD hW h | cases hn
theorem nest_tabs {w : Cond} (hn : isNest w = true) : w.onTables = true := by
  cases w <;> first | rfl | cases hn
theorem NW_nest {w : Cond} (h : w ∈ NW) : isNest w = true := (List.mem_filter.mp h).2
theorem GK.warm {g : gT} {s U : State} {H : Heap} (hW : s.WarmedH U.vm) (h : GK g s H) : GK g U H := by
  obtain ⟨h1, h2, h3, h4, h5, h6, h7, h8, h9, h10, h11, h12, h13, h14, h15⟩ := h
  have hA := hW.alike
  exact ⟨h1.moved hA, h2, fun w hw => nest_warm (NW_nest hw) hW (h3 w hw), h4, h5.moved hA, h6.moved hA, h7.moved hA, h8.moved hA, h9.moved hA, h10, h11.moved hA, fun q hq => (h12 q hq).warm hW, h13.moved hA, ⟨h14.1.imp (fun h => h.moved hA) (fun h => h.moved hA), h14.2.moved hA⟩, h15.moved hA⟩
theorem GK.same {g : gT} {s U : State} {H : Heap} (e : U.vm = s.vm) (h : GK g s H) : GK g U H := by
  obtain ⟨h1, h2, h3, h4, h5, h6, h7, h8, h9, h10, h11, h12, h13, h14, h15⟩ := h
  have hA : s.vm.Alike U.vm := by rw [e]; exact Vm.Alike.refl _
  exact ⟨h1.moved hA, h2, fun w hw => va_Nw.same (nest_tabs (NW_nest hw)) e.symm (h3 w hw), h4, h5.moved hA, h6.moved hA, h7.moved hA, h8.moved hA, h9.moved hA, h10, h11.moved hA, fun q hq => (h12 q hq).same e, h13.moved hA, ⟨h14.1.imp (fun h => h.moved hA) (fun h => h.moved hA), h14.2.moved hA⟩, h15.moved hA⟩
theorem GK.kept {g : gT} {U : State} {H H1 : Heap} (h : GK g U H) (hz : H.size ≤ H1.size) (hq : ∀ a : Nat, a < H.size → ¬ gA g a → H1[a]? = H[a]?) : GK g U H1 := by
  obtain ⟨h1, h2, h3, h4, h5, h6, h7, h8, h9, h10, h11, h12, h13, h14, h15⟩ := h
  exact ⟨h1, Nat.le_trans h2 hz, h3, h4, h5.kept hq, h6.kept hq, h7.kept hq, h8.kept hq, h9.kept (hq _ (Nat.lt_of_lt_of_le h10 h2) (Nat.not_le.mpr h10)), h10, h11.kept hq, h12, h13.kept hq, ⟨h14.1.imp (fun h => h.kept hq) (fun h => h.kept hq), h14.2⟩, h15⟩
theorem rW_get (g : gT) (ν : Nat → Nat) (M : mM) (n : Nat) : (rW g ν M)[n]? = (M[n]?).map (fun c => (ν n, rC g ν c)) := by
  unfold rW; rw [List.getElem?_mapIdx]
theorem rW_at {g : gT} {ν : Nat → Nat} {M : mM} {n : Nat} {c : mC} (h : M[n]? = some c) : (rW g ν M)[n]? = some (ν n, rC g ν c) := by
  rw [rW_get, h]; rfl
theorem rW_set (g : gT) (ν : Nat → Nat) (M : mM) (n : Nat) (c : mC) : rW g ν (M.set n c) = (rW g ν M).set n (ν n, rC g ν c) := by
  refine List.ext_getElem? fun k => ?_
  rw [rW_get, List.getElem?_set, List.getElem?_set]
  by_cases h : n = k
  · subst h
    have : (rW g ν M).length = M.length := by unfold rW; simp
    by_cases hl : n < M.length <;> simp [hl, this]
  · simp [h, rW_get]
theorem rV_int (g : gT) (ν : Nat → Nat) (x : Int32) : rV g ν (.int x) = .int x := rfl
theorem rV_eq {g : gT} {ν ν' : Nat → Nat} {v : Value} (h : ∀ n, v = .ref n → n < KB → ν' n = ν n) : rV g ν' v = rV g ν v := by
  cases v <;> try rfl
  rename_i n
  show Value.ref (rN g ν' n) = .ref (rN g ν n)
  unfold rN
  by_cases hn : n < KB
  · rw [if_pos hn, if_pos hn, h n rfl hn]
  · rw [if_neg hn, if_neg hn]
theorem rC_eq {g : gT} {ν ν' : Nat → Nat} {a len : Nat} {c : mC} (hl : len ≤ KB) (hok : okC a len c) (h : ∀ n, n < len → ν' n = ν n) : rC g ν' c = rC g ν c := by
  have hN : ∀ q, q < len → rN g ν' q = rN g ν q := fun q hq => by
    unfold rN; rw [if_pos (Nat.lt_of_lt_of_le hq hl), if_pos (Nat.lt_of_lt_of_le hq hl), h q hq]
  rcases c with ⟨t, n, a⟩ | ⟨ci, fs⟩
  · rcases a with f | f | f | f | f
    · rfl
    · rfl
    · rfl
    · rfl
    · have hf : (fun j => (f j).map (rN g ν')) = (fun j => (f j).map (rN g ν)) := funext fun j => by
        cases hj : f j with
        | none => rfl
        | some q => exact congrArg some (hN q (hok j q hj).1)
      show Sum.inl (gC g t, (n, Sum.inr (Sum.inr (Sum.inr (Sum.inr (fun j => (f j).map (rN g ν'))))))) = _
      rw [hf]; rfl
  · show Sum.inr (ci, fs.map (rV g ν')) = Sum.inr (ci, fs.map (rV g ν))
    congr 2
    refine List.ext_getElem? fun k => ?_
    rw [List.getElem?_map, List.getElem?_map]
    cases hk : fs[k]? with
    | none => rfl
    | some v =>
      refine congrArg some (rV_eq fun n hn hkb => ?_)
      have h1 := (hok k v hk).1
      subst hn
      simp only [cV, Bool.or_eq_true, decide_eq_true_eq] at h1
      exact h n (h1.resolve_right (Nat.not_le.mpr hkb))
theorem rL_get {g : gT} {ν : Nat → Nat} {L : List (Nat × Value)} {k i : Nat} {v : Value} (h : L[k]? = some (i, v)) : (rL g ν L)[k]? = some (i, rV g ν v) := by
  unfold rL; rw [List.getElem?_map, h]; rfl
end GB
