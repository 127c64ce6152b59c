/-! What the Statement gives of the start -/
section C97
theorem eq_ref {args : Array Value} {s : State} {t u : Term} {a : Nat} (h : (Cond.eq t u).before args s = true) (ht : t.eval args s none [] s = some (.ref a)) : u.eval args s none [] s = some (.ref a) := by
  cases hv : u.eval args s none [] s with
  | none => simp [Cond.before, Cond.holds, Cond.value, ht, hv] at h
  | some w =>
    simp only [Cond.before, Cond.holds, Cond.value, ht, hv] at h
    cases w <;> simp_all
abbrev gvC : List Cond := flatC (Jvm.Cond.and given_1 narrow_1)
theorem arr_of {args : Array Value} {s : State} {ty : FieldType} (h : (Cond.arrayClass ty).before args s = true) : ∃ cA : ClassId, s.vm.findClass ("[" ++ ty.toString) = some cA ∧ ArrOfT s cA ty := by
  obtain ⟨c, k, comp, h1, h2, h3⟩ := Cond.arrayClass_spec h
  exact ⟨c, h1, fun n z => ⟨fun k9 h9 => (by cases h9), k, h2, comp, h3⟩⟩
theorem arq_of {args : Array Value} {s : State} {C : String} (h : (Cond.arrayOver (.object C)).before args s = true) : ∃ cA : ClassId, ArrOfT s cA (.object C) ∧ va_RA s cA (.object C) := by
  obtain ⟨comp, c, k, h1, h2, h3, h4, h5⟩ := Cond.arrayOver_spec h
  exact ⟨c, fun n z => ⟨fun k9 h9 => (by cases h9), k, h3, comp, h4⟩, k, comp, h3, h4, h1, h5⟩
def tmR (i : Nat) : Term := .string "HoleWhistle$Reader" ([117, 134, 139, 144, 149, 190].getD i 0)
def tmM (i : Nat) : Term := .string "HoleWhistleModel" ([244, 256, 261, 263, 265, 273].getD i 0)
theorem gv_ex : ∀ i : Nat, i < 6 → Cond.exactly (tmR i) "java/lang/String" ∈ gvC := by decide +kernel
theorem gv_co : ∀ i : Nat, i < 6 → Cond.eq (.field (tmR i) "java/lang/String" "coder" "B") (.int 0) ∈ gvC := by decide +kernel
theorem gv_ar : ∀ i : Nat, i < 6 → Cond.arrayOf (.field (tmR i) "java/lang/String" "value" "[B") .byte ∈ gvC := by decide +kernel
theorem gv_le : ∀ i : Nat, i < 6 → Cond.eq (.length (.field (tmR i) "java/lang/String" "value" "[B")) (.int (Int32.ofNat (STL.getD i 0))) ∈ gvC := by decide +kernel
theorem gv_el : ∀ i : Nat, i < 6 → ∀ j : Nat, j < STL.getD i 0 → Cond.eq (.elem (.field (tmR i) "java/lang/String" "value" "[B") (.int (Int32.ofNat j))) (.int ((STB.getD i []).getD j 0)) ∈ gvC := by decide +kernel
theorem gv_ne : ∀ i : Nat, i < 6 → ∀ j : Nat, j < 6 → i ≠ j → Cond.not (Cond.eq (tmR i) (tmR j)) ∈ gvC ∨ Cond.not (Cond.eq (tmR j) (tmR i)) ∈ gvC := by decide +kernel
theorem gv_eq : ∀ i : Nat, i < 6 → Cond.eq (tmR i) (tmM i) ∈ gvC := by decide +kernel
theorem gv_pw : ∀ j : Nat, j < 8 → Cond.eq (.elem (.static "HoleWhistle" "POWERS" "[I") (.int (Int32.ofNat j))) (.int (Int32.ofInt ((3 : Int) ^ j))) ∈ gvC := by decide +kernel
theorem gv_st : Cond.arrayOf (.static "HoleWhistle" "POWERS" "[I") .int ∈ gvC ∧ Cond.eq (.length (.static "HoleWhistle" "POWERS" "[I")) (.int (Int32.ofNat 8)) ∈ gvC ∧ Cond.isRef (.static Bundle.tN "UNASSIGNED_STACK" Bundle.steD) ∈ gvC ∧ Cond.isRef (.static Bundle.tN "SUPPRESSED_SENTINEL" Bundle.listD) ∈ gvC ∧ Cond.isRef (.static "jdk/internal/util/Preconditions" "SIOOBE_FORMATTER" "Ljava/util/function/BiFunction;") ∈ gvC ∧ Cond.eq (.static "java/lang/String" "COMPACT_STRINGS" "Z") (.int 1) ∈ gvC ∧ Cond.not (.castable "java/lang/IllegalArgumentException" "java/lang/IndexOutOfBoundsException") ∈ gvC := by decide +kernel
theorem tb_st : Cond.laysStatic "HoleWhistle" "POWERS" "[I" ∈ tables_1 ∧ Cond.initialized "HoleWhistle" ∈ tables_1 ∧ Cond.laysStatic Bundle.tN "UNASSIGNED_STACK" Bundle.steD ∈ tables_1 ∧ Cond.laysStatic Bundle.tN "SUPPRESSED_SENTINEL" Bundle.listD ∈ tables_1 ∧ Cond.initialized Bundle.tN ∈ tables_1 ∧ Cond.laysStatic "jdk/internal/util/Preconditions" "SIOOBE_FORMATTER" "Ljava/util/function/BiFunction;" ∈ tables_1 ∧ Cond.initialized "jdk/internal/util/Preconditions" ∈ tables_1 ∧ Cond.laysStatic "java/lang/String" "COMPACT_STRINGS" "Z" ∈ tables_1 ∧ Cond.initialized "java/lang/String" ∈ tables_1 ∧ Cond.arrayOver (.object "HoleWhistle$State") ∈ tables_1 ∧ Cond.arrayClass .int ∈ tables_1 ∧ Cond.arrayClass .long ∈ tables_1 ∧ Cond.arrayClass .boolean ∈ tables_1 ∧ Cond.arrayClass .double ∈ tables_1 := by decide +kernel
theorem tb_sr : ∀ q ∈ STN, Cond.stringRef q.1 q.2.1 q.2.2.1 ∈ tables_1 := by decide +kernel
theorem tb_cl : ∀ q ∈ CL, Cond.instantiable q.1 q.2.2 ∈ tables_1 := by decide +kernel
theorem sn_cases : ∀ q ∈ STN, q.2.2.2 < 6 ∧ (Term.string q.1 q.2.1 = tmR q.2.2.2 ∨ Term.string q.1 q.2.1 = tmM q.2.2.2) := by decide +kernel
theorem lw_GK {s : State} {b L : Nat} {xs : Nat → Int32} (l : Launch) (hflags : l.flags = flags0) (hts : ∀ w ∈ lw_tbl, w.before #[Value.ref b] s = true) (hX : va_X b L xs s s.heap) (hbl : b < s.heap.size) (hgv : (Jvm.Cond.and given_1 narrow_1).before #[Value.ref b] s = true) :
    ∃ g : gT, gL g = l ∧ gN g = L ∧ gk g 1 = b ∧ gB g = s.heap.size ∧ GK g s s.heap := by
  have hs := flat_of_before _ hgv
  have ht : ∀ w ∈ tables_1, w.before #[Value.ref b] s = true := fun w hw => hts w (List.mem_append_right _ hw)
  have hA : ∀ a : Nat, a < s.heap.size → ¬ (fun q : Nat => s.heap.size ≤ q) a := fun a h => Nat.not_le.mpr h
  obtain ⟨t1, t2, t3, t4, t5, t6, t7, t8, t9, t10, t11, t12, t13, t14⟩ := tb_st
  obtain ⟨v1, v2, v3, v4, v5, v6, v7⟩ := gv_st
  obtain ⟨adK, adV, hStr, hEv⟩ := vk_Sof (args := #[Value.ref b]) (s := s) (N := 6) (tm := tmR) (len := STL) (byt := STB) (A := fun q : Nat => s.heap.size ≤ q) (by decide +kernel) (fun i hi => hs _ (gv_ex i hi)) (fun i hi => hs _ (gv_co i hi)) (fun i hi => hs _ (gv_ar i hi)) (fun i hi => hs _ (gv_le i hi)) (fun i hi j hj => hs _ (gv_el i hi j hj)) (fun i j hi hj hij => (gv_ne i hi j hj hij).imp (fun h => hs _ h) (fun h => hs _ h)) hA
  obtain ⟨pw9, hpe, hPw⟩ := va_Tof (args := #[Value.ref b]) (s := s) (N := 8) (f := fun j => .int (Int32.ofInt ((3 : Int) ^ j))) (A := fun q : Nat => s.heap.size ≤ q) (by decide) (hs _ v1) (va_eqt (hs _ v2)) (fun j hj => va_eqt (hs _ (gv_pw j hj))) hA
  obtain ⟨fm, hF⟩ : ∃ fm : Nat, va_Z "jdk/internal/util/Preconditions" "SIOOBE_FORMATTER" "Ljava/util/function/BiFunction;" .null (fun q : Nat => s.heap.size ≤ q) s s.heap ∨ va_Z "jdk/internal/util/Preconditions" "SIOOBE_FORMATTER" "Ljava/util/function/BiFunction;" (.ref fm) (fun q : Nat => s.heap.size ≤ q) s s.heap := by
    rcases va_Zqof (args := #[Value.ref b]) (A := fun q : Nat => s.heap.size ≤ q) (ht _ t6) (ht _ t7) (hs _ v5) hA with h | ⟨t, h⟩
    · exact ⟨0, Or.inl h⟩
    · exact ⟨t, Or.inr h⟩
  have hkn : ∀ k : Nat, ∃ D : ClassId × (Nat → Nat), ∀ q : vw_C, CL[k]? = some q → u_Kn s q.1 q.2.1 q.2.2 D.1 D.2 := by
    intro k
    cases hq : CL[k]? with
    | none => exact ⟨(0, fun _ => 0), fun q h => by cases h⟩
    | some q =>
      have hm := List.mem_of_getElem? hq
      obtain ⟨c, iS, h9⟩ := u_known (C := q.1) (T := q.2.1) (N := q.2.2) (n := q.2.2) hts (fun w hw => (List.mem_filter.mp (uws_ok q hm w hw)).1) (ht _ (tb_cl q hm))
      exact ⟨(c, iS), fun q' h => by cases h; exact h9⟩
  obtain ⟨DD, hDD⟩ := Classical.axiomOfChoice hkn
  obtain ⟨c0, a0, b0⟩ := arr_of (ht _ t11)
  obtain ⟨c1, a1, b1⟩ := arr_of (ht _ t12)
  obtain ⟨c2, a2, b2⟩ := arr_of (ht _ t13)
  obtain ⟨c3, a3, b3⟩ := arr_of (ht _ t14)
  obtain ⟨c4, b4, a4⟩ := arq_of (ht _ t10)
  obtain ⟨gC0, hgC⟩ : ∃ gC0 : Nat → ClassId, gC0 0 = c0 ∧ gC0 1 = c1 ∧ gC0 2 = c2 ∧ gC0 3 = c3 ∧ gC0 4 = c4 := ⟨fun k => if k = 0 then c0 else if k = 1 then c1 else if k = 2 then c2 else if k = 3 then c3 else c4, rfl, rfl, rfl, rfl, rfl⟩
  obtain ⟨gk0, hk0, hk1, hkK, hkV, hk14⟩ : ∃ gk0 : Nat → Nat, gk0 0 = pw9 ∧ gk0 1 = b ∧ (∀ i, i < 6 → gk0 (2 + i) = adK i) ∧ (∀ i, i < 6 → gk0 (8 + i) = adV i) ∧ gk0 14 = fm := by
    refine ⟨fun k => if k = 0 then pw9 else if k = 1 then b else if k < 8 then adK (k - 2) else if k < 14 then adV (k - 8) else fm, rfl, rfl, fun i hi => ?_, fun i hi => ?_, rfl⟩
    · show (if 2 + i = 0 then pw9 else if 2 + i = 1 then b else if 2 + i < 8 then adK (2 + i - 2) else _) = _
      rw [if_neg (by omega), if_neg (by omega), if_pos (by omega), Nat.add_sub_cancel_left]
    · show (if 8 + i = 0 then pw9 else if 8 + i = 1 then b else if 8 + i < 8 then adK (8 + i - 2) else if 8 + i < 14 then adV (8 + i - 8) else fm) = _
      rw [if_neg (by omega), if_neg (by omega), if_neg (by omega), if_pos (by omega), Nat.add_sub_cancel_left]
  refine ⟨(l, (fun k => (DD k).1, fun k => (DD k).2), gC0, s.heap.size, gk0, L, xs), rfl, rfl, hk1, rfl, ?_⟩
  refine ⟨⟨fun c q hq => hDD c q hq, fun k q hk => ?_⟩, Nat.le_refl _, fun w hw => va_Nw.of (nest_tabs (NW_nest hw)) (ht w (List.mem_filter.mp hw).1), ?_, ?_, ?_, vx_Zqof (ht _ t3) (ht _ t5) (hs _ v3) hA, vx_Zqof (ht _ t4) (ht _ t5) (hs _ v4) hA, ?_, ?_, ?_, ?_, va_Zof (ht _ t8) (ht _ t9) (va_eqi (hs _ v6)) hA, ⟨?_, va_Nc.of (hs _ v7)⟩, va_AO.of (ht _ t10)⟩
  · obtain ⟨e0, e1, e2, e3, e4⟩ := hgC
    rcases k with _ | _ | _ | _ | _ | k
    · cases hk
      show ArrOfT s (gC0 0) .int ∧ va_RA s (gC0 0) .int
      rw [e0]; exact ⟨b0, a0⟩
    · cases hk
      show ArrOfT s (gC0 1) .long ∧ va_RA s (gC0 1) .long
      rw [e1]; exact ⟨b1, a1⟩
    · cases hk
      show ArrOfT s (gC0 2) .boolean ∧ va_RA s (gC0 2) .boolean
      rw [e2]; exact ⟨b2, a2⟩
    · cases hk
      show ArrOfT s (gC0 3) .double ∧ va_RA s (gC0 3) .double
      rw [e3]; exact ⟨b3, a3⟩
    · cases hk
      show ArrOfT s (gC0 4) (.object "HoleWhistle$State") ∧ va_RA s (gC0 4) (.object "HoleWhistle$State")
      rw [e4]; exact ⟨b4, a4⟩
    · cases hk
  · show l.stackTraces = false
    unfold Launch.stackTraces
    rw [hflags]
    decide +kernel
  · show va_Z "HoleWhistle" "POWERS" "[I" (.ref (gk0 0)) (fun q : Nat => s.heap.size ≤ q) s s.heap
    rw [hk0]
    exact va_Zof (ht _ t1) (ht _ t2) hpe hA
  · show va_T .int (gk0 0) 8 _ (fun q : Nat => s.heap.size ≤ q) s s.heap
    rw [hk0]
    exact hPw
  · show va_X (gk0 1) L xs s s.heap
    rw [hk1]
    exact hX
  · show gk0 1 < s.heap.size
    rw [hk1]
    exact hbl
  · show vk_S 6 STL STB (fun i => gk0 (2 + i)) (fun i => gk0 (8 + i)) (fun q : Nat => s.heap.size ≤ q) s s.heap
    refine ⟨fun i hi => ?_, fun i j hi hj e => ?_⟩
    · show va_O "java/lang/String" (gk0 (2 + i)) _ s s.heap ∧ va_OF "java/lang/String" "coder" "B" (.int 0) (gk0 (2 + i)) _ s s.heap ∧ va_OF "java/lang/String" "value" "[B" (.ref (gk0 (8 + i))) (gk0 (2 + i)) _ s s.heap ∧ va_T .byte (gk0 (8 + i)) _ _ _ s s.heap
      rw [hkK i hi, hkV i hi]
      exact hStr.1 i hi
    · refine hStr.2 i j hi hj ?_
      have e9 : gk0 (2 + i) = gk0 (2 + j) := e
      rw [hkK i hi, hkK j hj] at e9
      exact e9
  · intro q hq
    obtain ⟨q1, q2⟩ := sn_cases q hq
    refine vk_R.of (A := #[Value.ref b]) (ht _ (tb_sr q hq)) ?_
    show (Term.string q.1 q.2.1).eval #[Value.ref b] s none [] s = some (.ref (gk0 (2 + q.2.2.2)))
    rw [hkK _ q1]
    rcases q2 with q2 | q2
    · rw [q2]; exact hEv _ q1
    · rw [q2]; exact eq_ref (hs _ (gv_eq _ q1)) (hEv _ q1)
  · show va_Z _ _ _ .null (fun q : Nat => s.heap.size ≤ q) s s.heap ∨ va_Z _ _ _ (.ref (gk0 14)) (fun q : Nat => s.heap.size ≤ q) s s.heap
    rw [hk14]
    exact hF
end C97
