/-! p58: what ArrayList.size, Whistle.digits and Whistle.change of the law's whistle do, and how many cells they make. -/
abbrev k8C : List vw_C := [(RX6, TX6, 13), (RJx4a65c, TJx4a65c, 3)]
abbrev whV (f : Nat → Int32) (hL hN : Nat) : List Value := [.int (f 0), .int (f 1), .int (f 2), .int (f 3), .int (f 4), .int (f 5), .int (f 6), .int (f 7), .int (f 8), .int (f 9), .int (f 10), .ref hL, .ref hN]
abbrev whC (h0 : Nat) (f : Nat → Int32) (hL hN : Nat) : Nat × va_E := (h0, .inr (0, whV f hL hN))
abbrev alC (hL : Nat) (mc : Int32) (hE : Nat) (n : Int32) : Nat × va_E := (hL, .inr (1, [.int mc, .ref hE, .int n]))
abbrev rwC (a : Nat) (cA : ClassId) (N : Nat) (r : Nat → Int32) : Nat × va_E := (a, .inl (cA, N, .inl r))
/-- a cell of a world that is apart from the others stands behind all that was there -/
theorem k8_new {D : va_G} {ws wn : va_W} {a sz : Nat} {e : va_E} {H : Heap} (hD : va_D (va_A ws sz) (ws ++ (a, e) :: wn)) (hP : va_P D k8C (ws ++ (a, e) :: wn) H) : sz ≤ a ∧ sz + 1 ≤ H.size := by
  have h1 : (ws ++ (a, e) :: wn)[ws.length]? = some (a, e) := by rw [List.getElem?_append_right (Nat.le_refl _)]; simp
  have h2 : sz ≤ a := by
    rcases hD.2 _ _ h1 with ⟨k, e2, h⟩ | h
    · have hk : k < ws.length := (List.getElem?_eq_some_iff.mp h).1
      have h3 : (ws ++ (a, e) :: wn)[k]? = some (a, e2) := by rw [List.getElem?_append_left hk]; exact h
      have h4 := hD.1 k ws.length _ _ h3 h1 rfl
      omega
    · exact h
  have h5 := (hP _ _ h1).lt
  exact ⟨h2, by omega⟩

set_option maxHeartbeats 4000000 in
set_option maxRecDepth 100000 in
/-- ArrayList.size -/
theorem c8_size (l : Launch) (dC : Nat → ClassId) (dI : Nat → Nat → Nat) (hL sz : Nat) (mc : Int32) (hE : Nat) (n : Int32) : Met l yJx4a65c_size_8abf5 wsJx4a65c_size_8abf5 ({ frames := 0, cells := 0, slots := 0, locals := 0 }) (va_Pc [.ref hL] (fun U => U.heap.size = sz ∧ va_P (dC, dI) k8C [alC hL mc hE n] U.heap ∧ va_K (dC, dI) k8C [] U ∧ va_D (fun _ => True) [alC hL mc hE n])) (va_Qi (fun (r : Int32) (_ : Unit) => r = n) (fun _ t => va_P (dC, dI) k8C [alC hL mc hE n] t.heap ∧ va_K (dC, dI) k8C [] t ∧ va_D (va_A [alC hL mc hE n] sz) [alC hL mc hE n]) (va_A [alC hL mc hE n] sz)) 0 0 (va_A [alC hL mc hE n] sz) := by
  refine Met.ofW (cc := cJx4a65c_size_8abf5) (maxL := 1) (ret := some .int) (by decide) rfl ?_
  intro p e s m args below meth c s₁ B hml hv
  obtain ⟨rfl, hsz, hP, hK, hD0⟩ := hv
  have hx := B.exec
  have hb := B.bytes
  have hr := B.returns
  have hts := atoms_spec (ws := wsJx4a65c_size_8abf5) B.pre
  have hown : s.vm.findClass RJx4a65c = some m.cls := findClass_of_methodNamed B.named
  have hlocks := B.notSynchronized
  subst hsz
  have hD := hD0.self (sz := s.heap.size)
  generalize hAe : va_A [alC hL mc hE n] s.heap.size = A at hD ⊢
  have hS : va_S A s.heap s.heap [] := va_S.rf
  have hl := lv_entry ([.ref hL]) (n := 1) (Nat.le_of_ble_eq_true rfl)
  rw [lg_entry_eq]
  generalize (lg_sl ([.ref hL]) ++ List.replicate (1 - (lg_sl ([.ref hL])).length) Slot.unset).toArray = ls at hl ⊢
  have hl : lv_has ls 1 [(0, .ref hL)] := hl
  refine lv_aload_n hx hb dJx4a65c_size_8abf5_0 rfl (lv_at hl 0 rfl) ?_
  refine va_get (D := (dC, dI)) (ci := 1) (v := .int n) (C := RJx4a65c) (T := TJx4a65c) (N := 3) hx hb hts (by decide +kernel) hown hK hP 0 rfl rfl 2 (by decide) (hts (.fieldLink RJx4a65c 48 "java/util/ArrayList" "size" "I") (by decide +kernel)) (fun _ h9 => h9) rfl dJx4a65c_size_8abf5_1 ?_
  exact W.iret (v := n) hx hb hr (fun t ht hW => ⟨⟨n, (), rfl, rfl, by rw [ht]; exact hP, va_K.moved hW.alike hK, hD⟩, hS.F ht⟩) hS.2.2 dJx4a65c_size_8abf5_4

set_option maxHeartbeats 4000000 in
set_option maxRecDepth 100000 in
/-- Whistle.digits: one row is new -/
theorem c8_digits (l : Launch) (dC : Nat → ClassId) (dI : Nat → Nat → Nat) (h0 sz : Nat) (f : Nat → Int32) (hL hN : Nat) (mc : Int32) (hE N : Nat) (hN9 : N ≤ 100) (p0 : Int32) : Met l yX6_digits wsX6_digits ({ frames := 1, cells := 1, slots := N + 1, locals := 20 }) (va_Pc [.ref h0, .int p0] (fun U => U.heap.size = sz ∧ va_P (dC, dI) k8C [whC h0 f hL hN, alC hL mc hE (nI N)] U.heap ∧ va_K (dC, dI) k8C [] U ∧ va_D (fun _ => True) [whC h0 f hL hN, alC hL mc hE (nI N)])) (va_Qr (fun (_ : ClassId × (Nat → Int32)) => True) (fun u a t => (sz ≤ a ∧ sz + 1 ≤ t.heap.size) ∧ va_P (dC, dI) k8C [whC h0 f hL hN, alC hL mc hE (nI N), rwC a u.1 (N + 1) u.2] t.heap ∧ va_K (dC, dI) k8C [(u.1, .int)] t ∧ va_D (va_A [whC h0 f hL hN, alC hL mc hE (nI N)] sz) [whC h0 f hL hN, alC hL mc hE (nI N), rwC a u.1 (N + 1) u.2]) (va_A [whC h0 f hL hN, alC hL mc hE (nI N)] sz)) 1 (N + 1) (va_A [whC h0 f hL hN, alC hL mc hE (nI N)] sz) := by
  refine Met.ofW (cc := cX6_digits) (maxL := 5) (ret := some (.array .int)) (by decide) rfl ?_
  intro p e s m args below meth c s₁ B hml hv
  obtain ⟨rfl, hsz, hP, hK, hD0⟩ := hv
  have hx := B.exec
  have hb := B.bytes
  have hr := B.returns
  have hts := atoms_spec (ws := wsX6_digits) B.pre
  have hown : s.vm.findClass RX6 = some m.cls := findClass_of_methodNamed B.named
  have hlocks := B.notSynchronized
  subst hsz
  have hD := hD0.self (sz := s.heap.size)
  have hA : ∀ q : Nat, s.heap.size ≤ q → (va_A [whC h0 f hL hN, alC hL mc hE (nI N)] s.heap.size) q := fun q h => Or.inr h
  have hfin : ∀ (a : Nat) (cA : ClassId) (r : Nat → Int32) (H : Heap), va_P (dC, dI) k8C [whC h0 f hL hN, alC hL mc hE (nI N), rwC a cA (N + 1) r] H → va_D (va_A [whC h0 f hL hN, alC hL mc hE (nI N)] s.heap.size) [whC h0 f hL hN, alC hL mc hE (nI N), rwC a cA (N + 1) r] → s.heap.size ≤ a ∧ s.heap.size + 1 ≤ H.size := fun a cA r H h1 h2 => k8_new (ws := [whC h0 f hL hN, alC hL mc hE (nI N)]) (wn := []) h2 h1
  generalize hAe : va_A [whC h0 f hL hN, alC hL mc hE (nI N)] s.heap.size = A at hD hA hfin ⊢
  have hS : va_S A s.heap s.heap [] := va_S.rf
  have hl := lv_entry ([.ref h0, .int p0]) (n := 5) (Nat.le_of_ble_eq_true rfl)
  rw [lg_entry_eq]
  generalize (lg_sl ([.ref h0, .int p0]) ++ List.replicate (5 - (lg_sl ([.ref h0, .int p0])).length) Slot.unset).toArray = ls at hl ⊢
  have hl : lv_has ls 5 [(0, .ref h0), (1, .int p0)] := hl
  -- the end, from the loop's head on
  have loop : ∀ (n k : Nat), k ≤ N → N + 1 ≤ k + n → ∀ (a : Nat) (cA : ClassId) (r : Nat → Int32) (x3 : Int32) (H : Heap) (locs : List Loc) (ls : Array Slot), va_K (dC, dI) k8C [(cA, .int)] s → va_P (dC, dI) k8C [whC h0 f hL hN, alC hL mc hE (nI N), rwC a cA (N + 1) r] H → va_D A [whC h0 f hL hN, alC hL mc hE (nI N), rwC a cA (N + 1) r] → va_S A s.heap H locs → lv_has ls 5 [(0, .ref h0), (2, .ref a), (3, .int x3), (4, .int (nI k))] → W p l e { frames := 1, cells := 1, slots := N + 1, locals := 20 } s m #[.ref h0, .int p0] below meth c H locs 1 (N + 1) (MQ below (va_Qr (fun (_ : ClassId × (Nat → Int32)) => True) (fun u a t => (s.heap.size ≤ a ∧ s.heap.size + 1 ≤ t.heap.size) ∧ va_P (dC, dI) k8C [whC h0 f hL hN, alC hL mc hE (nI N), rwC a u.1 (N + 1) u.2] t.heap ∧ va_K (dC, dI) k8C [(u.1, .int)] t ∧ va_D A [whC h0 f hL hN, alC hL mc hE (nI N), rwC a u.1 (N + 1) u.2]) A) #[.ref h0, .int p0] s 1 (N + 1) A) (F0 m 17 ls []) := by
    intro n
    induction n with
    | zero => intro k h1 h2; omega
    | succ n ih =>
      intro k hkN hkn a cA r x3 H locs ls hK hP hD hS hl
      refine lv_iload hx hb dX6_digits_17 (lv_at hl 3 rfl) ?_
      refine lv_aload_n hx hb dX6_digits_19 rfl (lv_at hl 0 rfl) ?_
      refine va_get (D := (dC, dI)) (ci := 0) (v := .ref hL) (C := RX6) (T := TX6) (N := 13) hx hb hts (by decide +kernel) hown hK hP 0 rfl rfl 11 (by decide) (hts (.fieldLink RX6 37 "HoleWhistleLaw$Whistle" "holes" "Ljava/util/ArrayList;") (by decide +kernel)) (fun _ h9 => h9) rfl dX6_digits_20 ?_
      have hPc := hP.sub (ws' := [alC hL mc hE (nI N)]) [1] rfl
      have hDc := hD.sub (ws' := [alC hL mc hE (nI N)]) [1] (by decide) rfl
      have hKc := hK.sub (tys' := []) [] rfl
      have hFc := va_free (wc := [alC hL mc hE (nI N)]) hD hS hA [1] rfl
      refine va_calli (va_runV (As := []) (rest := [.int (nI k)]) ⟨hx, hb, hml, hown, hts⟩ (c8_size l dC dI hL H.size mc hE (nI N)) (cwV 0 hts gX6_digits_Jx4a65c_size_8abf5 rfl rfl rfl (by decide +kernel) ⟨Nat.le_of_ble_eq_true rfl, Nat.le_of_ble_eq_true rfl⟩) ⟨fun a U g mk q => by obtain ⟨q0, q1, qP, qK, qD⟩ := q; exact ⟨q0, q1, qP, va_K.moved (u := U) (U := U.calling g mk a) (Vm.Alike.refl U.vm) qK, qD⟩, va_recv hKc hPc (ci := 1) (q0 := 0) rfl rfl, fun U hU hW => ⟨rfl, by rw [hU], by rw [hU]; exact hPc, va_K.moved hW.alike hKc, hDc.weaken (fun _ _ _ _ => trivial)⟩⟩ rfl rfl hl.1 rfl (lv_room (Nat.le_of_ble_eq_true rfl)) dX6_digits_23 ⟨by show 1 + 0 ≤ 1; omega, by show N + 1 + 0 ≤ N + 1; omega⟩) hS (fun q _ h => hFc q h) hFc (fun r1 u t H1 locs ht hvm hw hB hz1 hk1 hS => ?_)
      obtain ⟨hP1, hK1, hD1⟩ := hB
      rw [ht] at hP1
      have hK1 := va_K.moved hvm.symm hK1
      try dsimp only at hw
      subst hw
      obtain ⟨hP, hD⟩ := va_join (wr := [whC h0 f hL hN, rwC a cA (N + 1) r]) (w1 := [alC hL mc hE (nI N)]) hP hD [1] [0, 2] rfl rfl (by decide) (by decide) hk1 hFc hP1 hD1
      have hP := hP.sub (ws' := [whC h0 f hL hN, alC hL mc hE (nI N), rwC a cA (N + 1) r]) [0, 2, 1] rfl
      have hD := hD.sub (ws' := [whC h0 f hL hN, alC hL mc hE (nI N), rwC a cA (N + 1) r]) [0, 2, 1] (by decide) rfl
      clear hP1 hD1 hK1 hPc hDc hKc hFc hk1 ht hvm
      generalize H1 = H at hP hS ⊢
      refine W.widen (k := 1) (n := N + 1) (Nat.le_refl _) (Nat.le_refl _) ?_
      refine lv_icmp_ge (tgt := 46) hx hb dX6_digits_26 (by decide) (fun c1 => ?_) (fun c1 => ?_)
      · refine lv_aload_n hx hb dX6_digits_46 rfl (lv_at hl 1 rfl) ?_
        refine lv_aload_n hx hb dX6_digits_47 rfl (lv_at hl 0 rfl) ?_
        refine va_get (D := (dC, dI)) (ci := 0) (v := .ref hL) (C := RX6) (T := TX6) (N := 13) hx hb hts (by decide +kernel) hown hK hP 0 rfl rfl 11 (by decide) (hts (.fieldLink RX6 37 "HoleWhistleLaw$Whistle" "holes" "Ljava/util/ArrayList;") (by decide +kernel)) (fun _ h9 => h9) rfl dX6_digits_48 ?_
        have hPc := hP.sub (ws' := [alC hL mc hE (nI N)]) [1] rfl
        have hDc := hD.sub (ws' := [alC hL mc hE (nI N)]) [1] (by decide) rfl
        have hKc := hK.sub (tys' := []) [] rfl
        have hFc := va_free (wc := [alC hL mc hE (nI N)]) hD hS hA [1] rfl
        refine va_calli (va_runV (As := []) (rest := [.ref a]) ⟨hx, hb, hml, hown, hts⟩ (c8_size l dC dI hL H.size mc hE (nI N)) (cwV 0 hts gX6_digits_Jx4a65c_size_8abf5 rfl rfl rfl (by decide +kernel) ⟨Nat.le_of_ble_eq_true rfl, Nat.le_of_ble_eq_true rfl⟩) ⟨fun a U g mk q => by obtain ⟨q0, q1, qP, qK, qD⟩ := q; exact ⟨q0, q1, qP, va_K.moved (u := U) (U := U.calling g mk a) (Vm.Alike.refl U.vm) qK, qD⟩, va_recv hKc hPc (ci := 1) (q0 := 0) rfl rfl, fun U hU hW => ⟨rfl, by rw [hU], by rw [hU]; exact hPc, va_K.moved hW.alike hKc, hDc.weaken (fun _ _ _ _ => trivial)⟩⟩ rfl rfl hl.1 rfl (lv_room (Nat.le_of_ble_eq_true rfl)) dX6_digits_51 ⟨by show 1 + 0 ≤ 1; omega, by show N + 1 + 0 ≤ N + 1; omega⟩) hS (fun q _ h => hFc q h) hFc (fun r1 u t H1 locs ht hvm hw hB hz1 hk1 hS => ?_)
        obtain ⟨hP1, hK1, hD1⟩ := hB
        rw [ht] at hP1
        have hK1 := va_K.moved hvm.symm hK1
        try dsimp only at hw
        subst hw
        obtain ⟨hP, hD⟩ := va_join (wr := [whC h0 f hL hN, rwC a cA (N + 1) r]) (w1 := [alC hL mc hE (nI N)]) hP hD [1] [0, 2] rfl rfl (by decide) (by decide) hk1 hFc hP1 hD1
        have hP := hP.sub (ws' := [whC h0 f hL hN, alC hL mc hE (nI N), rwC a cA (N + 1) r]) [0, 2, 1] rfl
        have hD := hD.sub (ws' := [whC h0 f hL hN, alC hL mc hE (nI N), rwC a cA (N + 1) r]) [0, 2, 1] (by decide) rfl
        clear hP1 hD1 hK1 hPc hDc hKc hFc hk1 ht hvm
        generalize H1 = H at hP hS ⊢
        refine W.widen (k := 1) (n := N + 1) (Nat.le_refl _) (Nat.le_refl _) ?_
        refine lv_iload_n hx hb dX6_digits_54 rfl (lv_at hl 2 rfl) ?_
        refine va_iast hx hb hK hP hD hS 2 0 rfl rfl (vp_in_nI (by omega) (by omega)) dX6_digits_55 (fun H2 locs2 hP hD hS => ?_)
        refine lv_aload_n hx hb dX6_digits_56 rfl (lv_at hl 1 rfl) ?_
        exact W.aret (rt := .array .int) hx hb hr (Or.inr ⟨_, rfl⟩) (Or.inr ⟨_, rfl⟩) (fun t ht hW => ⟨⟨(cA, _), a, rfl, trivial, by rw [ht]; exact hfin a cA _ H2 hP hD, by rw [ht]; exact hP, va_K.moved hW.alike hK, hD⟩, hS.F ht⟩) hS.2.2 dX6_digits_57
      · have hlt : k < N := by
          rcases Nat.lt_or_ge k N with q | q
          · exact q
          · exact absurd (nI_le q (by omega)) c1
        refine lv_aload_n hx hb dX6_digits_29 rfl (lv_at hl 1 rfl) ?_
        refine lv_iload hx hb dX6_digits_30 (lv_at hl 3 rfl) ?_
        refine lv_iload_n hx hb dX6_digits_32 rfl (lv_at hl 2 rfl) ?_
        refine lv_iconst (v := 3) hx hb dX6_digits_33 (by decide) ?_
        refine lv_irem hx hb dX6_digits_34 (by decide) ?_
        refine va_iast hx hb hK hP hD hS 2 0 rfl rfl (vp_in_nI (by omega) (by omega)) dX6_digits_35 (fun H2 locs2 hP hD hS => ?_)
        refine lv_iload_n hx hb dX6_digits_36 rfl (lv_at hl 2 rfl) ?_
        refine lv_iconst (v := 3) hx hb dX6_digits_37 (by decide) ?_
        refine lv_idiv hx hb dX6_digits_38 (by decide) ?_
        refine lv_istore_n (lv' := [(3, .int (x3 / 3)), (0, .ref h0), (2, .ref a), (4, .int (nI k))]) hx hb dX6_digits_39 rfl hl (by decide) rfl (fun ls hl => ?_)
        refine lv_iinc (v := nI (k + 1)) (lv' := [(4, .int (nI (k + 1))), (3, .int (x3 / 3)), (0, .ref h0), (2, .ref a)]) hx hb dX6_digits_40 hl (k := 3) rfl (nI_1 k) (by decide) rfl (fun ls hl => ?_)
        refine lv_goto (tgt := 17) hx hb dX6_digits_43 (by decide) ?_
        exact ih (k + 1) hlt (by omega) a cA _ _ H2 locs2 ls hK hP hD hS (lv_sub hl [2, 3, 1, 0] rfl)
  refine lv_aload_n hx hb dX6_digits_0 rfl (lv_at hl 0 rfl) ?_
  refine va_get (D := (dC, dI)) (ci := 0) (v := .ref hL) (C := RX6) (T := TX6) (N := 13) hx hb hts (by decide +kernel) hown hK hP 0 rfl rfl 11 (by decide) (hts (.fieldLink RX6 37 "HoleWhistleLaw$Whistle" "holes" "Ljava/util/ArrayList;") (by decide +kernel)) (fun _ h9 => h9) rfl dX6_digits_1 ?_
  have hPc := hP.sub (ws' := [alC hL mc hE (nI N)]) [1] rfl
  have hDc := hD.sub (ws' := [alC hL mc hE (nI N)]) [1] (by decide) rfl
  have hKc := hK.sub (tys' := []) [] rfl
  have hFc := va_free (wc := [alC hL mc hE (nI N)]) hD hS hA [1] rfl
  refine va_calli (va_runV (As := []) (rest := []) ⟨hx, hb, hml, hown, hts⟩ (c8_size l dC dI hL s.heap.size mc hE (nI N)) (cwV 0 hts gX6_digits_Jx4a65c_size_8abf5 rfl rfl rfl (by decide +kernel) ⟨Nat.le_of_ble_eq_true rfl, Nat.le_of_ble_eq_true rfl⟩) ⟨fun a U g mk q => by obtain ⟨q0, q1, qP, qK, qD⟩ := q; exact ⟨q0, q1, qP, va_K.moved (u := U) (U := U.calling g mk a) (Vm.Alike.refl U.vm) qK, qD⟩, va_recv hKc hPc (ci := 1) (q0 := 0) rfl rfl, fun U hU hW => ⟨rfl, by rw [hU], by rw [hU]; exact hPc, va_K.moved hW.alike hKc, hDc.weaken (fun _ _ _ _ => trivial)⟩⟩ rfl rfl hl.1 rfl (lv_room (Nat.le_of_ble_eq_true rfl)) dX6_digits_4 ⟨by show 0 + 0 ≤ 1; omega, by show 0 + 0 ≤ N + 1; omega⟩) hS (fun q _ h => hFc q h) hFc (fun r1 u t H1 locs ht hvm hw hB hz1 hk1 hS => ?_)
  obtain ⟨hP1, hK1, hD1⟩ := hB
  rw [ht] at hP1
  have hK1 := va_K.moved hvm.symm hK1
  try dsimp only at hw
  subst hw
  obtain ⟨hP, hD⟩ := va_join (wr := [whC h0 f hL hN]) (w1 := [alC hL mc hE (nI N)]) hP hD [1] [0] rfl rfl (by decide) (by decide) hk1 hFc hP1 hD1
  have hP := hP.sub (ws' := [whC h0 f hL hN, alC hL mc hE (nI N)]) [0, 1] rfl
  have hD := hD.sub (ws' := [whC h0 f hL hN, alC hL mc hE (nI N)]) [0, 1] (by decide) rfl
  clear hP1 hD1 hK1 hPc hDc hKc hFc hk1 ht hvm
  generalize H1 = H at hP hS ⊢
  refine lv_iconst (v := 1) hx hb dX6_digits_7 (by decide) ?_
  refine lv_iadd hx hb dX6_digits_8 ?_
  rw [nI_1]
  refine va_newa (D := (dC, dI)) (atype := .int) (ty := .int) (N' := N + 1) (a0 := (N + 1, .inl (fun _ => 0))) hx hb (hts (.arrayClass .int) (by decide +kernel)) rfl hK hP hD hS hA (fun cA => rfl) (nI_pos (by omega)) (nI_clamp (by omega)) (by show (N + 1) * 4 ≤ 536870912; omega) (by show 0 + 0 + 1 ≤ 1; omega) (by show 0 + 0 + (N + 1) ≤ N + 1; omega) dX6_digits_9 (fun a cA H2 hK hP hD hS => ?_)
  refine W.widen (k := 1) (n := N + 1) (by omega) (by omega) ?_
  refine lv_astore_n (lv' := [(2, .ref a), (0, .ref h0), (1, .int p0)]) hx hb dX6_digits_11 rfl hl (by decide) rfl (fun ls hl => ?_)
  refine lv_iload_n hx hb dX6_digits_12 rfl (lv_at hl 2 rfl) ?_
  refine lv_istore_n (lv' := [(3, .int p0), (2, .ref a), (0, .ref h0), (1, .int p0)]) hx hb dX6_digits_13 rfl hl (by decide) rfl (fun ls hl => ?_)
  refine lv_iconst (v := nI 0) hx hb dX6_digits_14 (by decide) ?_
  refine lv_istore (lv' := [(4, .int (nI 0)), (3, .int p0), (2, .ref a), (0, .ref h0), (1, .int p0)]) hx hb dX6_digits_15 hl (by decide) rfl (fun ls hl => ?_)
  exact loop (N + 1) 0 (Nat.zero_le _) (by omega) a cA _ p0 H2 _ ls hK hP hD hS (lv_sub hl [3, 2, 1, 0] rfl)

