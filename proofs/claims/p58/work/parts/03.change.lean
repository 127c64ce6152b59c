set_option maxHeartbeats 4000000 in
set_option maxRecDepth 100000 in
/-- Whistle.change: two rows are new, whatever the two plays -/
theorem c8_change (l : Launch) (dC : Nat → ClassId) (dI : Nat → Nat → Nat) (h0 sz : Nat) (f : Nat → Int32) (hL hN : Nat) (mc : Int32) (hE N : Nat) (hN9 : N ≤ 100) (p1 p2 : Int32) : Met l yX6_change wsX6_change ({ frames := 2, cells := 2, slots := 2 * (N + 1), locals := 44 } : Room) (va_Pc [.ref h0, .int p1, .int p2] (fun U => U.heap.size = sz ∧ va_P (dC, dI) k8C [whC h0 f hL hN, alC hL mc hE (nI N)] U.heap ∧ va_K (dC, dI) k8C [] U ∧ va_D (fun _ => True) [whC h0 f hL hN, alC hL mc hE (nI N)])) (va_Qi (fun (_ : Int32) (_ : Unit) => True) (fun _ t => sz + 2 ≤ t.heap.size ∧ va_P (dC, dI) k8C [whC h0 f hL hN, alC hL mc hE (nI N)] t.heap ∧ va_K (dC, dI) k8C [] t ∧ va_D (va_A [whC h0 f hL hN, alC hL mc hE (nI N)] sz) [whC h0 f hL hN, alC hL mc hE (nI N)]) (va_A [whC h0 f hL hN, alC hL mc hE (nI N)] sz)) 2 (2 * (N + 1)) (va_A [whC h0 f hL hN, alC hL mc hE (nI N)] sz) := by
  refine Met.ofW (cc := cX6_change) (maxL := 7) (ret := some .int) (by decide) rfl ?_
  intro p e s m args below meth c s₁ B hml hv
  obtain ⟨rfl, hsz, hP, hK, hD0⟩ := hv
  have hx := B.exec
  have hb := B.bytes
  have hr := B.returns
  have hts := atoms_spec (ws := wsX6_change) B.pre
  have hown : s.vm.findClass RX6 = some m.cls := findClass_of_methodNamed B.named
  have hlocks := B.notSynchronized
  subst hsz
  have hD := hD0.self (sz := s.heap.size)
  have hA : ∀ q : Nat, s.heap.size ≤ q → (va_A [whC h0 f hL hN, alC hL mc hE (nI N)] s.heap.size) q := fun q h => Or.inr h
  generalize hAe : va_A [whC h0 f hL hN, alC hL mc hE (nI N)] s.heap.size = A at hD hA ⊢
  have hS : va_S A s.heap s.heap [] := va_S.rf
  have hl := lv_entry ([.ref h0, .int p1, .int p2]) (n := 7) (Nat.le_of_ble_eq_true rfl)
  rw [lg_entry_eq]
  generalize (lg_sl ([.ref h0, .int p1, .int p2]) ++ List.replicate (7 - (lg_sl ([.ref h0, .int p1, .int p2])).length) Slot.unset).toArray = ls at hl ⊢
  have hl : lv_has ls 7 [(0, .ref h0), (1, .int p1), (2, .int p2)] := hl
  have loop : ∀ (n k : Nat), k ≤ N → N + 1 ≤ k + n → ∀ (a b : Nat) (cA cB : ClassId) (ra rb : Nat → Int32) (x5 : Int32) (H : Heap) (locs : List Loc) (ls : Array Slot), va_K (dC, dI) k8C [(cA, .int), (cB, .int)] s → va_P (dC, dI) k8C [whC h0 f hL hN, alC hL mc hE (nI N), rwC a cA (N + 1) ra, rwC b cB (N + 1) rb] H → va_D A [whC h0 f hL hN, alC hL mc hE (nI N), rwC a cA (N + 1) ra, rwC b cB (N + 1) rb] → va_S A s.heap H locs → s.heap.size + 2 ≤ H.size → lv_has ls 7 [(0, .ref h0), (3, .ref a), (4, .ref b), (5, .int x5), (6, .int (nI k))] → W p l e ({ frames := 2, cells := 2, slots := 2 * (N + 1), locals := 44 } : Room) s m #[.ref h0, .int p1, .int p2] below meth c H locs 2 (2 * (N + 1)) (MQ below (va_Qi (fun (_ : Int32) (_ : Unit) => True) (fun _ t => s.heap.size + 2 ≤ t.heap.size ∧ va_P (dC, dI) k8C [whC h0 f hL hN, alC hL mc hE (nI N)] t.heap ∧ va_K (dC, dI) k8C [] t ∧ va_D (A) [whC h0 f hL hN, alC hL mc hE (nI N)]) A) #[.ref h0, .int p1, .int p2] s 2 (2 * (N + 1)) A) (F0 m 48 ls []) := by
    intro n
    induction n with
    | zero => intro k h1 h2; omega
    | succ n ih =>
      intro k hkN hkn a b cA cB ra rb x5 H locs ls hK hP hD hS hz hl
      refine lv_iload hx hb dX6_change_48 (lv_at hl 4 rfl) ?_
      refine lv_aload_n hx hb dX6_change_50 rfl (lv_at hl 0 rfl) ?_
      refine va_get (D := (dC, dI)) (ci := 0) (v := .ref hL) (C := RX6) (T := TX6) (N := 13) hx hb hts (by decide +kernel) hown hK hP 0 rfl rfl 11 (by decide) (hts (.fieldLink RX6 37 "HoleWhistleLaw$Whistle" "holes" "Ljava/util/ArrayList;") (by decide +kernel)) (fun _ h9 => h9) rfl dX6_change_51 ?_
      have hPc := hP.sub (ws' := [alC hL mc hE (nI N)]) [1] rfl
      have hDc := hD.sub (ws' := [alC hL mc hE (nI N)]) [1] (by decide) rfl
      have hKc := hK.sub (tys' := []) [] rfl
      have hFc := va_free (wc := [alC hL mc hE (nI N)]) hD hS hA [1] rfl
      refine va_calli (va_runV (As := []) (rest := [.int (nI k)]) ⟨hx, hb, hml, hown, hts⟩ (c8_size l dC dI hL H.size mc hE (nI N)) (cwV 0 hts gX6_change_Jx4a65c_size_8abf5 rfl rfl rfl (by decide +kernel) ⟨Nat.le_of_ble_eq_true rfl, Nat.le_of_ble_eq_true rfl⟩) ⟨fun a U g mk q => by obtain ⟨q0, q1, qP, qK, qD⟩ := q; exact ⟨q0, q1, qP, va_K.moved (u := U) (U := U.calling g mk a) (Vm.Alike.refl U.vm) qK, qD⟩, va_recv hKc hPc (ci := 1) (q0 := 0) rfl rfl, fun U hU hW => ⟨rfl, by rw [hU], by rw [hU]; exact hPc, va_K.moved hW.alike hKc, hDc.weaken (fun _ _ _ _ => trivial)⟩⟩ rfl rfl hl.1 rfl (lv_room (Nat.le_of_ble_eq_true rfl)) dX6_change_54 ⟨by show 2 + 0 ≤ 2; omega, by show 2 * (N + 1) + 0 ≤ 2 * (N + 1); omega⟩) hS (fun q _ h => hFc q h) hFc (fun r1 u t H1 locs ht hvm hw hB hz1 hk1 hS => ?_)
      obtain ⟨hP1, hK1, hD1⟩ := hB
      rw [ht] at hP1
      have hK1 := va_K.moved hvm.symm hK1
      try dsimp only at hw
      subst hw
      obtain ⟨hP, hD⟩ := va_join (wr := [whC h0 f hL hN, rwC a cA (N + 1) ra, rwC b cB (N + 1) rb]) (w1 := [alC hL mc hE (nI N)]) hP hD [1] [0, 2, 3] rfl rfl (by decide) (by decide) hk1 hFc hP1 hD1
      have hP := hP.sub (ws' := [whC h0 f hL hN, alC hL mc hE (nI N), rwC a cA (N + 1) ra, rwC b cB (N + 1) rb]) [0, 3, 1, 2] rfl
      have hD := hD.sub (ws' := [whC h0 f hL hN, alC hL mc hE (nI N), rwC a cA (N + 1) ra, rwC b cB (N + 1) rb]) [0, 3, 1, 2] (by decide) rfl
      clear hP1 hD1 hK1 hPc hDc hKc hFc hk1 ht hvm
      have hz := Nat.le_trans hz hz1
      clear hz1
      generalize H1 = H at hP hS hz ⊢
      refine W.widen (k := 2) (n := 2 * (N + 1)) (Nat.le_refl _) (Nat.le_refl _) ?_
      refine lv_icmp_ge (tgt := 115) hx hb dX6_change_57 (by decide) (fun c1 => ?_) (fun c1 => ?_)
      · refine lv_iload hx hb dX6_change_115 (lv_at hl 3 rfl) ?_
        have hP9 := hP.sub (ws' := [whC h0 f hL hN, alC hL mc hE (nI N)]) [0, 1] rfl
        have hD9 := hD.sub (ws' := [whC h0 f hL hN, alC hL mc hE (nI N)]) [0, 1] (by decide) rfl
        have hK9 := hK.sub (tys' := []) [] rfl
        exact W.iret (v := x5) hx hb hr (fun t ht hW => ⟨⟨x5, (), rfl, trivial, by rw [ht]; exact hz, by rw [ht]; exact hP9, va_K.moved hW.alike hK9, hD9⟩, hS.F ht⟩) hS.2.2 dX6_change_117
      · have hlt : k < N := by
          rcases Nat.lt_or_ge k N with q | q
          · exact q
          · exact absurd (nI_le q (by omega)) c1
        have hin : vp_in (nI k) (N + 1) := vp_in_nI (by omega) (by omega)
        have tail : ∀ v : Int32, W p l e ({ frames := 2, cells := 2, slots := 2 * (N + 1), locals := 44 } : Room) s m #[.ref h0, .int p1, .int p2] below meth c H locs 2 (2 * (N + 1)) (MQ below (va_Qi (fun (_ : Int32) (_ : Unit) => True) (fun _ t => s.heap.size + 2 ≤ t.heap.size ∧ va_P (dC, dI) k8C [whC h0 f hL hN, alC hL mc hE (nI N)] t.heap ∧ va_K (dC, dI) k8C [] t ∧ va_D (A) [whC h0 f hL hN, alC hL mc hE (nI N)]) A) #[.ref h0, .int p1, .int p2] s 2 (2 * (N + 1)) A) (F0 m 106 ls [.int v, .int x5]) := by
          intro v
          refine lv_iadd hx hb dX6_change_106 ?_
          refine lv_istore (lv' := [(5, .int (x5 + v)), (0, .ref h0), (3, .ref a), (4, .ref b), (6, .int (nI k))]) hx hb dX6_change_107 hl (by decide) rfl (fun ls hl => ?_)
          refine lv_iinc (v := nI (k + 1)) (lv' := [(6, .int (nI (k + 1))), (5, .int (x5 + v)), (0, .ref h0), (3, .ref a), (4, .ref b)]) hx hb dX6_change_109 hl (k := 4) rfl (nI_1 k) (by decide) rfl (fun ls hl => ?_)
          refine lv_goto (tgt := 48) hx hb dX6_change_112 (by decide) ?_
          exact ih (k + 1) hlt (by omega) a b cA cB ra rb _ H _ ls hK hP hD hS hz (lv_sub hl [2, 3, 4, 1, 0] rfl)
        have half : W p l e ({ frames := 2, cells := 2, slots := 2 * (N + 1), locals := 44 } : Room) s m #[.ref h0, .int p1, .int p2] below meth c H locs 2 (2 * (N + 1)) (MQ below (va_Qi (fun (_ : Int32) (_ : Unit) => True) (fun _ t => s.heap.size + 2 ≤ t.heap.size ∧ va_P (dC, dI) k8C [whC h0 f hL hN, alC hL mc hE (nI N)] t.heap ∧ va_K (dC, dI) k8C [] t ∧ va_D (A) [whC h0 f hL hN, alC hL mc hE (nI N)]) A) #[.ref h0, .int p1, .int p2] s 2 (2 * (N + 1)) A) (F0 m 95 ls [.int x5]) := by
          refine lv_aload_n hx hb dX6_change_95 rfl (lv_at hl 0 rfl) ?_
          refine va_get (D := (dC, dI)) (ci := 0) (v := .int (f 6)) (C := RX6) (T := TX6) (N := 13) hx hb hts (by decide +kernel) hown hK hP 0 rfl rfl 6 (by decide) (hts (.fieldLink RX6 28 "HoleWhistleLaw$Whistle" "half" "I") (by decide +kernel)) (fun _ h9 => h9) rfl dX6_change_96 ?_
          exact lv_goto (tgt := 106) hx hb dX6_change_99 (by decide) (tail _)
        refine lv_iload hx hb dX6_change_60 (lv_at hl 3 rfl) ?_
        refine lv_aload_n hx hb dX6_change_62 rfl (lv_at hl 1 rfl) ?_
        refine lv_iload hx hb dX6_change_63 (lv_at hl 4 rfl) ?_
        refine va_iald hx hb hK hP 2 0 rfl rfl hin dX6_change_65 ?_
        refine lv_aload hx hb dX6_change_66 (lv_at hl 2 rfl) ?_
        refine lv_iload hx hb dX6_change_68 (lv_at hl 4 rfl) ?_
        refine va_iald hx hb hK hP 3 1 rfl rfl hin dX6_change_70 ?_
        refine lv_icmp_ne (tgt := 78) hx hb dX6_change_71 (by decide) (fun _ => ?_) (fun _ => ?_)
        · refine lv_aload_n hx hb dX6_change_78 rfl (lv_at hl 1 rfl) ?_
          refine lv_iload hx hb dX6_change_79 (lv_at hl 4 rfl) ?_
          refine va_iald hx hb hK hP 2 0 rfl rfl hin dX6_change_81 ?_
          refine lv_iconst (v := 1) hx hb dX6_change_82 (by decide) ?_
          refine lv_icmp_eq (tgt := 95) hx hb dX6_change_83 (by decide) (fun _ => half) (fun _ => ?_)
          refine lv_aload hx hb dX6_change_86 (lv_at hl 2 rfl) ?_
          refine lv_iload hx hb dX6_change_88 (lv_at hl 4 rfl) ?_
          refine va_iald hx hb hK hP 3 1 rfl rfl hin dX6_change_90 ?_
          refine lv_iconst (v := 1) hx hb dX6_change_91 (by decide) ?_
          refine lv_icmp_ne (tgt := 102) hx hb dX6_change_92 (by decide) (fun _ => ?_) (fun _ => half)
          refine lv_aload_n hx hb dX6_change_102 rfl (lv_at hl 0 rfl) ?_
          refine va_get (D := (dC, dI)) (ci := 0) (v := .int (f 5)) (C := RX6) (T := TX6) (N := 13) hx hb hts (by decide +kernel) hown hK hP 0 rfl rfl 5 (by decide) (hts (.fieldLink RX6 25 "HoleWhistleLaw$Whistle" "move" "I") (by decide +kernel)) (fun _ h9 => h9) rfl dX6_change_103 ?_
          exact tail _
        · refine lv_iconst (v := 0) hx hb dX6_change_74 (by decide) ?_
          exact lv_goto (tgt := 106) hx hb dX6_change_75 (by decide) (tail _)
  refine lv_aload_n hx hb dX6_change_0 rfl (lv_at hl 0 rfl) ?_
  refine lv_iload_n hx hb dX6_change_1 rfl (lv_at hl 1 rfl) ?_
  have hPc := hP.sub (ws' := [whC h0 f hL hN, alC hL mc hE (nI N)]) [0, 1] rfl
  have hDc := hD.sub (ws' := [whC h0 f hL hN, alC hL mc hE (nI N)]) [0, 1] (by decide) rfl
  have hKc := hK.sub (tys' := []) [] rfl
  have hFc := va_free (wc := [whC h0 f hL hN, alC hL mc hE (nI N)]) hD hS hA [0, 1] rfl
  refine va_callr (va_runV (As := [.int p1]) (rest := []) ⟨hx, hb, hml, hown, hts⟩ (c8_digits l dC dI h0 s.heap.size f hL hN mc hE N hN9 p1) (cwV 1 hts gX6_change_X6_digits rfl rfl rfl (by decide +kernel) ⟨Nat.le_of_ble_eq_true rfl, Nat.le_of_ble_eq_true rfl⟩) ⟨fun a U g mk q => by obtain ⟨q0, q1, qP, qK, qD⟩ := q; exact ⟨q0, q1, qP, va_K.moved (u := U) (U := U.calling g mk a) (Vm.Alike.refl U.vm) qK, qD⟩, va_recv hKc hPc (ci := 0) (q0 := 0) rfl rfl, fun U hU hW => ⟨rfl, by rw [hU], by rw [hU]; exact hPc, va_K.moved hW.alike hKc, hDc.weaken (fun _ _ _ _ => trivial)⟩⟩ rfl rfl hl.1 rfl (lv_room (Nat.le_of_ble_eq_true rfl)) dX6_change_2 ⟨by show 0 + 1 ≤ 2; omega, by show 0 + (N + 1) ≤ 2 * (N + 1); omega⟩) hS (fun q _ h => hFc q h) hFc (fun u a t H1 locs ht hvm hw hB hz1 hk1 hS => ?_)
  obtain ⟨cA, ra⟩ := u
  obtain ⟨hsz, hP1, hK1, hD1⟩ := hB
  rw [ht] at hP1 hsz
  have hK1 := va_K.moved hvm.symm hK1
  try dsimp only at hsz hP1 hK1 hD1
  obtain ⟨hP, hD⟩ := va_join (wr := []) (w1 := [whC h0 f hL hN, alC hL mc hE (nI N), rwC a cA (N + 1) ra]) hP hD [0, 1] [] rfl rfl (by decide) (by decide) hk1 hFc hP1 hD1
  have hP := hP.sub (ws' := [whC h0 f hL hN, alC hL mc hE (nI N), rwC a cA (N + 1) ra]) [0, 1, 2] rfl
  have hD := hD.sub (ws' := [whC h0 f hL hN, alC hL mc hE (nI N), rwC a cA (N + 1) ra]) [0, 1, 2] (by decide) rfl
  have hK := (hK.sub (tys' := []) [] rfl).app hK1
  have hz := hsz.2
  clear hP1 hD1 hK1 hPc hDc hKc hFc hk1 ht hvm hsz hz1
  generalize H1 = H at hP hS hz ⊢
  refine lv_astore_n (lv' := [(3, .ref a), (0, .ref h0), (1, .int p1), (2, .int p2)]) hx hb dX6_change_5 rfl hl (by decide) rfl (fun ls hl => ?_)
  refine lv_aload_n hx hb dX6_change_6 rfl (lv_at hl 1 rfl) ?_
  refine lv_iload_n hx hb dX6_change_7 rfl (lv_at hl 3 rfl) ?_
  have hPc := hP.sub (ws' := [whC h0 f hL hN, alC hL mc hE (nI N)]) [0, 1] rfl
  have hDc := hD.sub (ws' := [whC h0 f hL hN, alC hL mc hE (nI N)]) [0, 1] (by decide) rfl
  have hKc := hK.sub (tys' := []) [] rfl
  have hFc := va_free (wc := [whC h0 f hL hN, alC hL mc hE (nI N)]) hD hS hA [0, 1] rfl
  refine va_callr (va_runV (As := [.int p2]) (rest := []) ⟨hx, hb, hml, hown, hts⟩ (c8_digits l dC dI h0 H.size f hL hN mc hE N hN9 p2) (cwV 1 hts gX6_change_X6_digits rfl rfl rfl (by decide +kernel) ⟨Nat.le_of_ble_eq_true rfl, Nat.le_of_ble_eq_true rfl⟩) ⟨fun a U g mk q => by obtain ⟨q0, q1, qP, qK, qD⟩ := q; exact ⟨q0, q1, qP, va_K.moved (u := U) (U := U.calling g mk a) (Vm.Alike.refl U.vm) qK, qD⟩, va_recv hKc hPc (ci := 0) (q0 := 0) rfl rfl, fun U hU hW => ⟨rfl, by rw [hU], by rw [hU]; exact hPc, va_K.moved hW.alike hKc, hDc.weaken (fun _ _ _ _ => trivial)⟩⟩ rfl rfl hl.1 rfl (lv_room (Nat.le_of_ble_eq_true rfl)) dX6_change_8 ⟨by show 0 + 1 + 1 ≤ 2; omega, by show 0 + (N + 1) + (N + 1) ≤ 2 * (N + 1); omega⟩) hS (fun q _ h => hFc q h) hFc (fun u b t H1 locs ht hvm hw hB hz1 hk1 hS => ?_)
  obtain ⟨cB, rb⟩ := u
  obtain ⟨hsz, hP1, hK1, hD1⟩ := hB
  rw [ht] at hP1 hsz
  have hK1 := va_K.moved hvm.symm hK1
  try dsimp only at hsz hP1 hK1 hD1
  obtain ⟨hP, hD⟩ := va_join (wr := [rwC a cA (N + 1) ra]) (w1 := [whC h0 f hL hN, alC hL mc hE (nI N), rwC b cB (N + 1) rb]) hP hD [0, 1] [2] rfl rfl (by decide) (by decide) hk1 hFc hP1 hD1
  have hP := hP.sub (ws' := [whC h0 f hL hN, alC hL mc hE (nI N), rwC a cA (N + 1) ra, rwC b cB (N + 1) rb]) [1, 2, 0, 3] rfl
  have hD := hD.sub (ws' := [whC h0 f hL hN, alC hL mc hE (nI N), rwC a cA (N + 1) ra, rwC b cB (N + 1) rb]) [1, 2, 0, 3] (by decide) rfl
  have hK := (hK.sub (tys' := [(cA, .int)]) [0] rfl).app hK1
  have hz : s.heap.size + 2 ≤ H1.size := by have := hsz.2; omega
  clear hP1 hD1 hK1 hPc hDc hKc hFc hk1 ht hvm hsz hz1
  generalize H1 = H at hP hS hz ⊢
  refine W.widen (k := 2) (n := 2 * (N + 1)) (by omega) (by omega) ?_
  refine lv_astore (lv' := [(4, .ref b), (3, .ref a), (0, .ref h0), (1, .int p1), (2, .int p2)]) hx hb dX6_change_11 hl (by decide) rfl (fun ls hl => ?_)
  have hin : vp_in (nI N) (N + 1) := vp_in_nI (by omega) (by omega)
  have join : ∀ (v : Int32) (H : Heap) (locs : List Loc), va_P (dC, dI) k8C [whC h0 f hL hN, alC hL mc hE (nI N), rwC a cA (N + 1) ra, rwC b cB (N + 1) rb] H → va_D A [whC h0 f hL hN, alC hL mc hE (nI N), rwC a cA (N + 1) ra, rwC b cB (N + 1) rb] → va_S A s.heap H locs → s.heap.size + 2 ≤ H.size → W p l e ({ frames := 2, cells := 2, slots := 2 * (N + 1), locals := 44 } : Room) s m #[.ref h0, .int p1, .int p2] below meth c H locs 2 (2 * (N + 1)) (MQ below (va_Qi (fun (_ : Int32) (_ : Unit) => True) (fun _ t => s.heap.size + 2 ≤ t.heap.size ∧ va_P (dC, dI) k8C [whC h0 f hL hN, alC hL mc hE (nI N)] t.heap ∧ va_K (dC, dI) k8C [] t ∧ va_D (A) [whC h0 f hL hN, alC hL mc hE (nI N)]) A) #[.ref h0, .int p1, .int p2] s 2 (2 * (N + 1)) A) (F0 m 43 ls [.int v]) := by
    intro v H locs hP hD hS hz
    refine lv_istore (lv' := [(5, .int v), (4, .ref b), (3, .ref a), (0, .ref h0), (1, .int p1), (2, .int p2)]) hx hb dX6_change_43 hl (by decide) rfl (fun ls hl => ?_)
    refine lv_iconst (v := nI 0) hx hb dX6_change_45 (by decide) ?_
    refine lv_istore (lv' := [(6, .int (nI 0)), (5, .int v), (4, .ref b), (3, .ref a), (0, .ref h0), (1, .int p1), (2, .int p2)]) hx hb dX6_change_46 hl (by decide) rfl (fun ls hl => ?_)
    exact loop (N + 1) 0 (Nat.zero_le _) (by omega) a b cA cB ra rb v H locs ls hK hP hD hS hz (lv_sub hl [4, 3, 2, 1, 0] rfl)
  refine lv_aload_n hx hb dX6_change_13 rfl (lv_at hl 1 rfl) ?_
  refine lv_aload_n hx hb dX6_change_14 rfl (lv_at hl 2 rfl) ?_
  refine va_get (D := (dC, dI)) (ci := 0) (v := .ref hL) (C := RX6) (T := TX6) (N := 13) hx hb hts (by decide +kernel) hown hK hP 0 rfl rfl 11 (by decide) (hts (.fieldLink RX6 37 "HoleWhistleLaw$Whistle" "holes" "Ljava/util/ArrayList;") (by decide +kernel)) (fun _ h9 => h9) rfl dX6_change_15 ?_
  have hPc := hP.sub (ws' := [alC hL mc hE (nI N)]) [1] rfl
  have hDc := hD.sub (ws' := [alC hL mc hE (nI N)]) [1] (by decide) rfl
  have hKc := hK.sub (tys' := []) [] rfl
  have hFc := va_free (wc := [alC hL mc hE (nI N)]) hD hS hA [1] rfl
  refine va_calli (va_runV (As := []) (rest := [.ref a]) ⟨hx, hb, hml, hown, hts⟩ (c8_size l dC dI hL H.size mc hE (nI N)) (cwV 0 hts gX6_change_Jx4a65c_size_8abf5 rfl rfl rfl (by decide +kernel) ⟨Nat.le_of_ble_eq_true rfl, Nat.le_of_ble_eq_true rfl⟩) ⟨fun a U g mk q => by obtain ⟨q0, q1, qP, qK, qD⟩ := q; exact ⟨q0, q1, qP, va_K.moved (u := U) (U := U.calling g mk a) (Vm.Alike.refl U.vm) qK, qD⟩, va_recv hKc hPc (ci := 1) (q0 := 0) rfl rfl, fun U hU hW => ⟨rfl, by rw [hU], by rw [hU]; exact hPc, va_K.moved hW.alike hKc, hDc.weaken (fun _ _ _ _ => trivial)⟩⟩ rfl rfl hl.1 rfl (lv_room (Nat.le_of_ble_eq_true rfl)) dX6_change_18 ⟨by show 2 + 0 ≤ 2; omega, by show 2 * (N + 1) + 0 ≤ 2 * (N + 1); omega⟩) hS (fun q _ h => hFc q h) hFc (fun r1 u t H1 locs ht hvm hw hB hz1 hk1 hS => ?_)
  obtain ⟨hP1, hK1, hD1⟩ := hB
  rw [ht] at hP1
  have hK1 := va_K.moved hvm.symm hK1
  try dsimp only at hw
  subst hw
  obtain ⟨hP, hD⟩ := va_join (wr := [whC h0 f hL hN, rwC a cA (N + 1) ra, rwC b cB (N + 1) rb]) (w1 := [alC hL mc hE (nI N)]) hP hD [1] [0, 2, 3] rfl rfl (by decide) (by decide) hk1 hFc hP1 hD1
  have hP := hP.sub (ws' := [whC h0 f hL hN, alC hL mc hE (nI N), rwC a cA (N + 1) ra, rwC b cB (N + 1) rb]) [0, 3, 1, 2] rfl
  have hD := hD.sub (ws' := [whC h0 f hL hN, alC hL mc hE (nI N), rwC a cA (N + 1) ra, rwC b cB (N + 1) rb]) [0, 3, 1, 2] (by decide) rfl
  clear hP1 hD1 hK1 hPc hDc hKc hFc hk1 ht hvm
  have hz := Nat.le_trans hz hz1
  clear hz1
  generalize H1 = H at hP hS hz ⊢
  refine W.widen (k := 2) (n := 2 * (N + 1)) (Nat.le_refl _) (Nat.le_refl _) ?_
  refine va_iald hx hb hK hP 2 0 rfl rfl hin dX6_change_21 ?_
  refine lv_aload hx hb dX6_change_22 (lv_at hl 0 rfl) ?_
  refine lv_aload_n hx hb dX6_change_24 rfl (lv_at hl 2 rfl) ?_
  refine va_get (D := (dC, dI)) (ci := 0) (v := .ref hL) (C := RX6) (T := TX6) (N := 13) hx hb hts (by decide +kernel) hown hK hP 0 rfl rfl 11 (by decide) (hts (.fieldLink RX6 37 "HoleWhistleLaw$Whistle" "holes" "Ljava/util/ArrayList;") (by decide +kernel)) (fun _ h9 => h9) rfl dX6_change_25 ?_
  have hPc := hP.sub (ws' := [alC hL mc hE (nI N)]) [1] rfl
  have hDc := hD.sub (ws' := [alC hL mc hE (nI N)]) [1] (by decide) rfl
  have hKc := hK.sub (tys' := []) [] rfl
  have hFc := va_free (wc := [alC hL mc hE (nI N)]) hD hS hA [1] rfl
  refine va_calli (va_runV (As := []) (rest := [.ref b, .int (ra (nI N).toNatClampNeg)]) ⟨hx, hb, hml, hown, hts⟩ (c8_size l dC dI hL H.size mc hE (nI N)) (cwV 0 hts gX6_change_Jx4a65c_size_8abf5 rfl rfl rfl (by decide +kernel) ⟨Nat.le_of_ble_eq_true rfl, Nat.le_of_ble_eq_true rfl⟩) ⟨fun a U g mk q => by obtain ⟨q0, q1, qP, qK, qD⟩ := q; exact ⟨q0, q1, qP, va_K.moved (u := U) (U := U.calling g mk a) (Vm.Alike.refl U.vm) qK, qD⟩, va_recv hKc hPc (ci := 1) (q0 := 0) rfl rfl, fun U hU hW => ⟨rfl, by rw [hU], by rw [hU]; exact hPc, va_K.moved hW.alike hKc, hDc.weaken (fun _ _ _ _ => trivial)⟩⟩ rfl rfl hl.1 rfl (lv_room (Nat.le_of_ble_eq_true rfl)) dX6_change_28 ⟨by show 2 + 0 ≤ 2; omega, by show 2 * (N + 1) + 0 ≤ 2 * (N + 1); omega⟩) hS (fun q _ h => hFc q h) hFc (fun r1 u t H1 locs ht hvm hw hB hz1 hk1 hS => ?_)
  obtain ⟨hP1, hK1, hD1⟩ := hB
  rw [ht] at hP1
  have hK1 := va_K.moved hvm.symm hK1
  try dsimp only at hw
  subst hw
  obtain ⟨hP, hD⟩ := va_join (wr := [whC h0 f hL hN, rwC a cA (N + 1) ra, rwC b cB (N + 1) rb]) (w1 := [alC hL mc hE (nI N)]) hP hD [1] [0, 2, 3] rfl rfl (by decide) (by decide) hk1 hFc hP1 hD1
  have hP := hP.sub (ws' := [whC h0 f hL hN, alC hL mc hE (nI N), rwC a cA (N + 1) ra, rwC b cB (N + 1) rb]) [0, 3, 1, 2] rfl
  have hD := hD.sub (ws' := [whC h0 f hL hN, alC hL mc hE (nI N), rwC a cA (N + 1) ra, rwC b cB (N + 1) rb]) [0, 3, 1, 2] (by decide) rfl
  clear hP1 hD1 hK1 hPc hDc hKc hFc hk1 ht hvm
  have hz := Nat.le_trans hz hz1
  clear hz1
  generalize H1 = H at hP hS hz ⊢
  refine W.widen (k := 2) (n := 2 * (N + 1)) (Nat.le_refl _) (Nat.le_refl _) ?_
  refine va_iald hx hb hK hP 3 1 rfl rfl hin dX6_change_31 ?_
  refine lv_icmp_ne (tgt := 39) hx hb dX6_change_32 (by decide) (fun _ => ?_) (fun _ => ?_)
  · refine lv_aload_n hx hb dX6_change_39 rfl (lv_at hl 2 rfl) ?_
    refine va_get (D := (dC, dI)) (ci := 0) (v := .int (f 7)) (C := RX6) (T := TX6) (N := 13) hx hb hts (by decide +kernel) hown hK hP 0 rfl rfl 7 (by decide) (hts (.fieldLink RX6 31 "HoleWhistleLaw$Whistle" "breath" "I") (by decide +kernel)) (fun _ h9 => h9) rfl dX6_change_40 ?_
    exact join _ H _ hP hD hS hz
  · refine lv_iconst (v := 0) hx hb dX6_change_35 (by decide) ?_
    exact lv_goto (tgt := 43) hx hb dX6_change_36 (by decide) (join _ H _ hP hD hS hz)

