/-! The reader: the tune -/
section C62
variable {g : gT} {σ τ : sT} {l : Nat → Nat}
/-- whether a word is some one -/
def isWB (T : Int → Int) (q e i : Nat) : Bool := decide (e - q = wdN i ∧ ∀ k : Nat, k < wdN i → T ((q + k : Nat) : Int) = wd i k)
theorem bvT {P : Prop} {i : Decidable P} (h : P) : @bv P i = iv 1 := by
  unfold bv
  rw [if_pos h]
theorem bvF {P : Prop} {i : Decidable P} (h : ¬ P) : @bv P i = iv 0 := by
  unfold bv
  rw [if_neg h]
theorem isWord_b {T : Int → Int} {N q e i : Nat} (hT : TX T N) (h10 : σ 10 = T) (h6 : σ 9 6 = (e : Int)) (h7 : σ 9 7 = (q : Int)) (hqe : q ≤ e ∧ e ≤ N) (hi : i < 6) : Fw g zX2_isWord [.ref 9, .ref (KB + (2 + i))] σ l (bv (isWB T q e i = true)) := by
  have hd : isW T q e i ↔ isWB T q e i = true := by unfold isWB isW; exact decide_eq_true_iff.symm
  have h := @isWord_ok g σ l T N q e i hT h10 h6 h7 hqe hi (decidable_of_iff _ hd.symm)
  by_cases c : isWB T q e i = true
  · rw [bvT c]
    rw [bvT (hd.mpr c)] at h
    exact h
  · rw [bvF c]
    rw [bvF (fun z => c (hd.mp z))] at h
    exact h
theorem CSt.ad {b : Nat} {s : Int → Int} {t : Int} (h : CSt σ b s) (h3 : s 3 ≤ 7) (hn0 : 0 ≤ s 9) : CSt (up (up σ (b + 3) (s 9) t) b 9 (s 9 + 1)) b (adS s t) := by
  refine h.tn h3 (fun k a b _ => adS_e hn0 k a b) (fun j a b => by rw [up_ne (fun z => a z.2), up_n (by omega)]) (by rw [up_eq, adS_9]) (by rw [up_ne (by omega), up_n (by omega), h.f12, adS_12 hn0]) (by rw [up_n (by omega), up_n (by omega)]) (by rw [up_n (by omega), up_n (by omega)]) (fun k k0 k1 => ?_)
  rw [adS_9] at k1
  rw [up_n (by omega), adS_t hn0 k0]
  by_cases c : k = s 9
  · rw [if_pos c, c, up_eq]
  · rw [if_neg c, up_ne (fun z => c z.2)]
    exact h.tu k k0 (by omega)
theorem SOK.ad {B : Int} {s : Int → Int} {t : Int} (ho : SOK B s) (hn : s 9 < 40) (h : -1 ≤ t ∧ t ≤ 24) : SOK B (adS s t) := by
  have hn0 := ho.notes.1
  have hpl := ho.place
  refine ho.tn (fun k a b c => adS_e hn0 k a b) (by rw [adS_9]; omega) (by rw [adS_12 hn0, adS_9]; omega) (fun k k0 k1 => ?_)
  rw [adS_9] at k1
  rw [adS_t hn0 k0]
  split
  · exact h
  · exact ho.tune k k0 (by omega)
def rNote (d : Int → Int) (q : Nat) (t : Int) : Sum (Int × Nat) (Int → Int) := if 40 ≤ d 9 then .inl (4, q) else .inr (adS d t)
theorem takeNote_ok {N p q : Nat} {st ht t : Int} {d : Int → Int} (h : PSt σ N st ht (d, p) τ) (h7 : τ 9 7 = (q : Int)) (ht2 : -1 ≤ t ∧ t ≤ 24) : Fn g zX2_takeNote 0 0 [.ref 9, iv t] τ l (Ry l (PFt σ N st) (fun d2 ρ => PSt σ N st ht (d2, p) ρ ∧ ∀ a, a < 11 ∨ 14 < a → ρ a = τ a) (rNote d q t)) := by
  have c1 : CSt τ 11 d := h.cst
  have o1 : SOK 0 d := h.sok
  have ho3 := o1.holes
  have hn := o1.notes
  refine Fn.of [some (.ref 9), some (iv t)] rfl (by decide) (Nat.le_of_ble_eq_true rfl) rfl ?_
  refine g_aload0 dX2_takeNote_0 ?_
  refine f_getr (r := 11) rfl (by decide) rfl rfl fl_X2_31 dX2_takeNote_1 ?_
  refine f_geti (J := 9) rfl (by decide) rfl rfl fl_X2_192 dX2_takeNote_4 ?_
  rw [c1.f9]
  refine g_bipush dX2_takeNote_7 (by decide) ?_
  refine g_icmp_lt ⟨by omega, by omega⟩ ⟨by decide, by decide⟩ (tgt := 22) dX2_takeNote_9 rfl (fun h9 => ?_) (fun h9 => ?_)
  · refine g_aload0 dX2_takeNote_22 ?_
    refine f_getr (r := 11) rfl (by decide) rfl rfl fl_X2_31 dX2_takeNote_23 ?_
    refine f_getr (r := 14) rfl (by decide) rfl rfl fl_X2_195 dX2_takeNote_26 ?_
    refine g_aload0 dX2_takeNote_29 ?_
    refine f_getr (r := 11) rfl (by decide) rfl rfl fl_X2_31 dX2_takeNote_30 ?_
    refine f_geti (J := 9) rfl (by decide) rfl rfl fl_X2_192 dX2_takeNote_33 ?_
    rw [c1.f9]
    refine g_iload1 dX2_takeNote_36 ?_
    refine f_cS3d (putI rfl (by decide) (by omega) (by show d 9 < (40 : Nat); omega)) oY_X5_put oT_X5_put lk_X2_56 rfl dX2_takeNote_37 rfl (Or.inl rfl) ?_
    refine g_aload0 dX2_takeNote_40 ?_
    refine f_getr (r := 11) rfl (by decide) rfl rfl fl_X2_31 dX2_takeNote_41 ?_
    refine g_dup rfl dX2_takeNote_44 ?_
    refine f_geti (J := 9) rfl (by decide) rfl rfl fl_X2_192 dX2_takeNote_45 ?_
    rw [up_n (by decide), c1.f9]
    refine g_iconst dX2_takeNote_48 ?_
    refine g_iadd dX2_takeNote_49 ?_
    refine f_puti (J := 9) rfl (by decide) rfl rfl fl_X2_192 rfl (fun _ _ _ h => by cases h; rfl) dX2_takeNote_50 ?_
    refine g_iconst dX2_takeNote_53 ?_
    refine g_iretB (Or.inr rfl) rfl dX2_takeNote_54 ?_
    exact Ry.yes (by unfold rNote; rw [if_neg (by omega)]) ⟨h.set (fun a ha => by rw [up_n (by omega), up_n (by omega)]) (c1.ad ho3.2 hn.1) (o1.ad (by omega) ht2), fun a ha => by rw [up_n (by omega), up_n (by omega)]⟩
  · refine g_aload0 dX2_takeNote_12 ?_
    refine g_iconst dX2_takeNote_13 ?_
    refine g_aload0 dX2_takeNote_14 ?_
    refine f_geti (J := 7) rfl (by decide) rfl rfl fl_X2_38 dX2_takeNote_15 ?_
    rw [h7]
    refine f_cV2x (fail_ok) rfl (by decide) rfl oY_X2_fail oI_X2_fail lk_X2_89 rfl dX2_takeNote_18 rfl (Or.inl rfl) ?_
    refine g_iretB (Or.inl rfl) rfl dX2_takeNote_21 ?_
    exact Ry.no (by unfold rNote; rw [if_pos h9]) (h.fail n9_fail (by rw [up_ne (by decide), up_eq]) up_eq)
def TSt (σ : sT) (N : Nat) (st ht : Int) (x : ((Int → Int) × Nat) × Nat × (Nat → Int)) (τ : sT) : Prop := PSt σ N st ht x.1 τ ∧ τ 9 10 = (x.2.1 : Int) ∧ x.2.1 ≤ 4 ∧ (∀ j : Nat, j < x.2.1 → τ 15 j = x.2.2 j) ∧ ∀ j : Nat, j < x.2.1 → 0 ≤ x.2.2 j ∧ x.2.2 j ≤ x.1.1 9
theorem TSt.p {N p o : Nat} {st ht : Int} {d : Int → Int} {b : Nat → Int} (h : TSt σ N st ht ((d, p), o, b) τ) : PSt σ N st ht (d, p) τ := h.1
theorem TSt.o {N p o : Nat} {st ht : Int} {d : Int → Int} {b : Nat → Int} (h : TSt σ N st ht ((d, p), o, b) τ) : τ 9 10 = (o : Int) := h.2.1
theorem TSt.o4 {N p o : Nat} {st ht : Int} {d : Int → Int} {b : Nat → Int} (h : TSt σ N st ht ((d, p), o, b) τ) : o ≤ 4 := h.2.2.1
theorem TSt.b {N p o : Nat} {st ht : Int} {d : Int → Int} {b : Nat → Int} (h : TSt σ N st ht ((d, p), o, b) τ) : ∀ j : Nat, j < o → τ 15 j = b j := h.2.2.2.1
theorem TSt.r {N p o : Nat} {st ht : Int} {d : Int → Int} {b : Nat → Int} (h : TSt σ N st ht ((d, p), o, b) τ) : ∀ j : Nat, j < o → 0 ≤ b j ∧ b j ≤ d 9 := h.2.2.2.2
/-- small steps keep the brackets -/
theorem TSt.n9 {ρ : sT} {N p e o : Nat} {st ht : Int} {d : Int → Int} {b : Nat → Int} (h : TSt σ N st ht ((d, p), o, b) τ) (hn : N9 τ ρ) (hP : PSt σ N st ht (d, e) ρ) : TSt σ N st ht ((d, e), o, b) ρ :=
  ⟨hP, (hn.2 10 (by decide) (by decide) (by decide) (by decide) (by decide)).trans h.o, h.o4, fun j hj => by rw [hn.1 15 (by decide)]; exact h.b j hj, h.r⟩
theorem TSt.nt {ρ : sT} {N p o : Nat} {st ht : Int} {d d2 : Int → Int} {b : Nat → Int} (h : TSt σ N st ht ((d, p), o, b) τ) (hP : PSt σ N st ht (d2, p) ρ) (hf : ∀ a, a < 11 ∨ 14 < a → ρ a = τ a) (hd : d 9 ≤ d2 9) : TSt σ N st ht ((d2, p), o, b) ρ :=
  ⟨hP, by rw [hf 9 (by decide)]; exact h.o, h.o4, fun j hj => by rw [hf 15 (by decide)]; exact h.b j hj, fun j hj => ⟨(h.r j hj).1, Int.le_trans (h.r j hj).2 hd⟩⟩
def opB (d : Int → Int) (o : Nat) (b : Nat → Int) : Nat → Int := fun j => if j = o then d 9 else b j
def rOpen (d : Int → Int) (p o : Nat) (b : Nat → Int) : Sum (Int × Nat) (((Int → Int) × Nat) × Nat × (Nat → Int)) := if 4 ≤ o then .inl (3, p) else .inr ((d, p + 1), o + 1, opB d o b)
theorem readOpening_ok {N p o : Nat} {st ht : Int} {d : Int → Int} {b : Nat → Int} (hT : TX (σ 10) N) (h : TSt σ N st ht ((d, p), o, b) τ) (hlt : o < 4 → p + 1 ≤ N) : Fn g zX2_readOpening 0 0 [.ref 9] τ l (Ry l (PFt σ N st) (TSt σ N st ht) (rOpen d p o b)) := by
  have hP := h.p
  have c1 := hP.c
  have o1 := hP.s
  have ho3 := o1.holes
  have hn := o1.notes
  have ho := h.o
  have ho4 := h.o4
  have hle : p ≤ N := hP.le
  have hN := hT.1
  refine Fn.of [some (.ref 9)] rfl (by decide) (Nat.le_of_ble_eq_true rfl) rfl ?_
  refine g_aload0 dX2_readOpening_0 ?_
  refine f_geti (J := 10) rfl (by decide) rfl rfl fl_X2_48 dX2_readOpening_1 ?_
  rw [ho]
  refine g_iconst dX2_readOpening_4 ?_
  refine g_icmp_lt ⟨by omega, by omega⟩ ⟨by decide, by decide⟩ (tgt := 18) dX2_readOpening_5 rfl (fun h5 => ?_) (fun h5 => ?_)
  · refine g_aload0 dX2_readOpening_18 ?_
    refine f_getr (r := 15) rfl (by decide) rfl rfl fl_X2_51 dX2_readOpening_19 ?_
    refine g_aload0 dX2_readOpening_22 ?_
    refine f_geti (J := 10) rfl (by decide) rfl rfl fl_X2_48 dX2_readOpening_23 ?_
    rw [ho]
    refine g_aload0 dX2_readOpening_26 ?_
    refine f_getr (r := 11) rfl (by decide) rfl rfl fl_X2_31 dX2_readOpening_27 ?_
    refine f_geti (J := 9) rfl (by decide) rfl rfl fl_X2_192 dX2_readOpening_30 ?_
    rw [c1.f9]
    refine f_cS3d (putI rfl (by decide) (by omega) (by show (o : Int) < (4 : Nat); omega)) oY_X5_put oT_X5_put lk_X2_56 rfl dX2_readOpening_33 rfl (Or.inl rfl) ?_
    refine g_aload0 dX2_readOpening_36 ?_
    refine g_dup rfl dX2_readOpening_37 ?_
    refine f_geti (J := 10) rfl (by decide) rfl rfl fl_X2_48 dX2_readOpening_38 ?_
    rw [up_n (by decide), ho]
    refine g_iconst dX2_readOpening_41 ?_
    refine g_iadd dX2_readOpening_42 ?_
    refine f_puti (J := 10) rfl (by decide) rfl rfl fl_X2_48 rfl (fun _ _ _ h => by cases h; rfl) dX2_readOpening_43 ?_
    refine g_aload0 dX2_readOpening_46 ?_
    refine g_dup rfl dX2_readOpening_47 ?_
    refine f_geti (J := 6) rfl (by decide) rfl rfl fl_X2_35 dX2_readOpening_48 ?_
    rw [up_ne (by decide), up_n (by decide), show τ 9 6 = (p : Int) from hP.pos]
    refine g_iconst dX2_readOpening_51 ?_
    refine g_iadd dX2_readOpening_52 ?_
    refine f_puti (J := 6) rfl (by decide) rfl rfl fl_X2_35 rfl (fun _ _ _ h => by cases h; rfl) dX2_readOpening_53 ?_
    refine g_iconst dX2_readOpening_56 ?_
    refine g_iretB (Or.inr rfl) rfl dX2_readOpening_57 ?_
    refine Ry.yes (by unfold rOpen; rw [if_neg (by omega)]) ⟨⟨fun a a0 a1 => ?_, ?_, ?_, ?_, ?_, ?_, ?_, ?_, o1, ?_⟩, ?_, by show o + 1 ≤ 4; omega, fun j hj => ?_, fun j hj => ?_⟩
    · rw [up_n a0, up_n a0, up_n (by omega)]; exact hP.fr a a0 a1
    · rw [up_ne (by decide), up_ne (by decide), up_n (by decide)]; exact hP.len
    · rw [up_ne (by decide), up_ne (by decide), up_n (by decide)]; exact hP.err
    · rw [up_ne (by decide), up_ne (by decide), up_n (by decide)]; exact hP.pl
    · rw [up_ne (by decide), up_ne (by decide), up_n (by decide)]; exact hP.stm
    · rw [up_eq]; push_cast; rfl
    · rw [up_ne (by decide), up_ne (by decide), up_n (by decide)]; exact hP.tun
    · exact c1.frame (by rw [up_n (by decide), up_n (by decide), up_n (by decide)]) (by rw [up_n (by decide), up_n (by decide), up_n (by decide)]) (by rw [up_n (by decide), up_n (by decide), up_n (by decide)]) (by rw [up_n (by decide), up_n (by decide), up_n (by decide)])
    · exact hlt (by omega)
    · rw [up_ne (by decide), up_eq]; push_cast; rfl
    · rw [up_n (by decide), up_n (by decide)]
      show up τ 15 (o : Int) (d 9) 15 (j : Int) = opB d o b j
      unfold opB
      by_cases c : j = o
      · rw [if_pos c, c, up_eq]
      · rw [if_neg c, up_ne (by omega)]
        exact h.b j (by have : j < o + 1 := hj; omega)
    · show 0 ≤ opB d o b j ∧ opB d o b j ≤ d 9
      unfold opB
      by_cases c : j = o
      · rw [if_pos c]; omega
      · rw [if_neg c]; exact h.r j (by have : j < o + 1 := hj; omega)
  · refine g_aload0 dX2_readOpening_8 ?_
    refine g_iconst dX2_readOpening_9 ?_
    refine g_aload0 dX2_readOpening_10 ?_
    refine f_geti (J := 6) rfl (by decide) rfl rfl fl_X2_35 dX2_readOpening_11 ?_
    rw [show τ 9 6 = (p : Int) from hP.pos]
    refine f_cV2x (fail_ok) rfl (by decide) rfl oY_X2_fail oI_X2_fail lk_X2_89 rfl dX2_readOpening_14 rfl (Or.inl rfl) ?_
    refine g_iretB (Or.inl rfl) rfl dX2_readOpening_17 ?_
    exact Ry.no (by unfold rOpen; rw [if_pos (by omega)]) (hP.fail n9_fail (by rw [up_ne (by decide), up_eq]) up_eq)
/-- the last c notes again and again -/
def rpF (d : Int → Int) (c : Int) : Nat → Int → Int
  | 0 => d
  | k + 1 => adS (rpF d c k) (wTu (rpF d c k) (rpF d c k 9 - c))
theorem rpF_9 (d : Int → Int) (c : Int) (k : Nat) : rpF d c k 9 = d 9 + k := by
  induction k with
  | zero => show d 9 = d 9 + ((0 : Nat) : Int); omega
  | succ k ih => rw [rpF, adS_9, ih]; push_cast; omega
theorem rpF_ok {d : Int → Int} {c : Int} (ho : SOK 0 d) (hc : 1 ≤ c) (hcd : c ≤ d 9) : ∀ k : Nat, d 9 + k ≤ 40 → SOK 0 (rpF d c k) := by
  intro k
  induction k with
  | zero => intro _; exact ho
  | succ k ih =>
    intro hk
    have h1 := ih (by omega)
    have h9 := rpF_9 d c k
    have ht := h1.tune (rpF d c k 9 - c) (by omega) (by omega)
    exact h1.ad (by omega) ht
def rClose (T : Int → Int) (N : Nat) (d : Int → Int) (p o : Nat) (b : Nat → Int) : Sum (Int × Nat) (((Int → Int) × Nat) × Nat × (Nat → Int)) :=
  if o = 0 then .inl (1, p) else match rNum T N 1 9 (p + 1) with
  | .inl e => .inl e
  | .inr (v, e) => if 40 < b (o - 1) + (d 9 - b (o - 1)) * v then .inl (4, sk isSp T N (p + 1)) else .inr ((rpF d (d 9 - b (o - 1)) ((d 9 - b (o - 1)) * (v - 1)).toNat, e), o - 1, b)
theorem readClosing_ok {N p o : Nat} {st ht : Int} {d : Int → Int} {b : Nat → Int} (hT : TX (σ 10) N) (h : TSt σ N st ht ((d, p), o, b) τ) (hlt : 0 < o → p + 1 ≤ N) : Fn g zX2_readClosing 0 0 [.ref 9] τ l (Ry l (PFt σ N st) (TSt σ N st ht) (rClose (σ 10) N d p o b)) := by
  have hP := h.p
  have c1 := hP.c
  have o1 := hP.s
  have ho3 := o1.holes
  have hn := o1.notes
  have ho := h.o
  have ho4 := h.o4
  have hle : p ≤ N := hP.le
  have hN := hT.1
  have hZ0 : 0 < o → PSt σ N st ht (d, p + 1) (up (up τ 9 10 ((o : Int) - 1)) 9 6 ((p : Int) + 1)) := fun h0 => ⟨fun a a0 a1 => by rw [up_n a0, up_n a0]; exact hP.fr a a0 a1, by rw [up_ne (by decide), up_ne (by decide)]; exact hP.len, by rw [up_ne (by decide), up_ne (by decide)]; exact hP.err, by rw [up_ne (by decide), up_ne (by decide)]; exact hP.pl, by rw [up_ne (by decide), up_ne (by decide)]; exact hP.stm, by rw [up_eq]; push_cast; rfl, by rw [up_ne (by decide), up_ne (by decide)]; exact hP.tun, c1.frame (by rw [up_n (by decide), up_n (by decide)]) (by rw [up_n (by decide), up_n (by decide)]) (by rw [up_n (by decide), up_n (by decide)]) (by rw [up_n (by decide), up_n (by decide)]), o1, hlt h0⟩
  refine Fn.of [some (.ref 9), none, none, none] rfl (by decide) (Nat.le_of_ble_eq_true rfl) rfl ?_
  refine g_aload0 dX2_readClosing_0 ?_
  refine f_geti (J := 10) rfl (by decide) rfl rfl fl_X2_48 dX2_readClosing_1 ?_
  rw [ho]
  refine g_if_ne ⟨by omega, by omega⟩ (tgt := 17) dX2_readClosing_4 rfl (fun h4 => ?_) (fun h4 => ?_)
  · refine g_aload0 dX2_readClosing_17 ?_
    refine g_dup rfl dX2_readClosing_18 ?_
    refine f_geti (J := 10) rfl (by decide) rfl rfl fl_X2_48 dX2_readClosing_19 ?_
    rw [ho]
    refine g_iconst dX2_readClosing_22 ?_
    refine g_isub dX2_readClosing_23 ?_
    refine f_puti (J := 10) rfl (by decide) rfl rfl fl_X2_48 rfl (fun _ _ _ h => by cases h; rfl) dX2_readClosing_24 ?_
    refine g_aload0 dX2_readClosing_27 ?_
    refine g_dup rfl dX2_readClosing_28 ?_
    refine f_geti (J := 6) rfl (by decide) rfl rfl fl_X2_35 dX2_readClosing_29 ?_
    rw [up_ne (by decide), show τ 9 6 = (p : Int) from hP.pos]
    refine g_iconst dX2_readClosing_32 ?_
    refine g_iadd dX2_readClosing_33 ?_
    refine f_puti (J := 6) rfl (by decide) rfl rfl fl_X2_35 rfl (fun _ _ _ h => by cases h; rfl) dX2_readClosing_34 ?_
    have hZ := hZ0 (by omega)
    refine g_aload0 dX2_readClosing_37 ?_
    refine g_iconst dX2_readClosing_38 ?_
    refine g_bipush dX2_readClosing_39 (by decide) ?_
    refine f_cV2n (readNumber_ok hT hZ.len hZ.txt hZ.pos hZ.le ⟨by decide, by decide⟩ ⟨by decide, by decide⟩) rfl (by decide) rfl oY_X2_readNumber oI_X2_readNumber lk_X2_123 rfl dX2_readClosing_41 (Nat.zero_le _) (Nat.zero_le _) rfl (Or.inl rfl) (fun v41 σ41 l41 h41 => ?_) (fun e41 σ41 l41 h41 => ?_)
    · obtain ⟨e41, y41⟩ := Rz.split h41
      subst e41
      rcases y41 with ⟨k41, pl41, r41, rfl, n41⟩ | ⟨w41, q41, r41, rfl, n41⟩
      · show GW g _ _ _ _ _ _ (iv 0 :: _) _
        refine g_if_ne ⟨by decide, by decide⟩ (tgt := 49) dX2_readClosing_44 rfl (fun h44 => absurd h44 (by decide)) (fun h44 => ?_)
        refine g_iconst dX2_readClosing_47 ?_
        refine g_iretB (Or.inl rfl) rfl dX2_readClosing_48 ?_
        exact Ry.no (by unfold rClose; rw [if_neg (by omega)]; simp only [r41]) (hZ.numF n41)
      · show GW g _ _ _ _ _ _ (iv 1 :: _) _
        obtain ⟨Q41, x41, a41, b41⟩ := hZ.num n41 r41
        refine g_if_ne ⟨by decide, by decide⟩ (tgt := 49) dX2_readClosing_44 rfl (fun h44 => ?_) (fun h44 => absurd h44 (by decide))
        have e10 : σ41 9 10 = (o : Int) - 1 := by rw [n41.1.2 10 (by decide) (by decide) (by decide) (by decide) (by decide), up_ne (by decide), up_eq]
        have e15 : σ41 15 ((o : Int) - 1) = b (o - 1) := by
          rw [n41.1.1 15 (by decide), up_n (by decide), up_n (by decide), show (o : Int) - 1 = ((o - 1 : Nat) : Int) from by omega]
          exact h.b (o - 1) (by omega)
        have e7 : σ41 9 7 = (sk isSp (σ 10) N (p + 1) : Int) := n41.2.2.2.2.1
        have hbr := h.r (o - 1) (by omega)
        generalize hB : b (o - 1) = B at *
        have hmul : 0 ≤ (d 9 - B) * w41 ∧ (d 9 - B) * w41 ≤ 40 * 9 := ⟨Int.mul_nonneg (by omega) (by omega), Int.mul_le_mul (by omega) (by omega) (by omega) (by omega)⟩
        have hm1 : (d 9 - B) * (w41 - 1) = (d 9 - B) * w41 - (d 9 - B) := by rw [Int.mul_sub, Int.mul_one]
        have hm2 : 0 ≤ (d 9 - B) * (w41 - 1) := Int.mul_nonneg (by omega) (by omega)
        refine g_aload0 dX2_readClosing_49 ?_
        refine f_getr (r := 15) rfl (by decide) rfl rfl fl_X2_51 dX2_readClosing_50 ?_
        refine g_aload0 dX2_readClosing_53 ?_
        refine f_geti (J := 10) rfl (by decide) rfl rfl fl_X2_48 dX2_readClosing_54 ?_
        rw [e10]
        refine f_cS2w (atI rfl (by decide) (by omega) (by show (o : Int) - 1 < (4 : Nat); omega)) oY_X5_at oT_X5_at lk_X2_102 rfl dX2_readClosing_57 rfl (Or.inl rfl) ?_
        rw [e15]
        refine g_istore1 dX2_readClosing_60 rfl (by decide) ?_
        refine g_aload0 dX2_readClosing_61 ?_
        refine f_getr (r := 11) rfl (by decide) rfl rfl fl_X2_31 dX2_readClosing_62 ?_
        refine f_geti (J := 9) rfl (by decide) rfl rfl fl_X2_192 dX2_readClosing_65 ?_
        rw [Q41.c.f9]
        refine g_iload1 dX2_readClosing_68 ?_
        refine g_isub dX2_readClosing_69 ?_
        refine g_istore2 dX2_readClosing_70 rfl (by decide) ?_
        refine g_iload1 dX2_readClosing_71 ?_
        refine g_iload2 dX2_readClosing_72 ?_
        refine g_aload0 dX2_readClosing_73 ?_
        refine f_geti (J := 8) rfl (by decide) rfl rfl fl_X2_41 dX2_readClosing_74 ?_
        rw [x41]
        refine g_imul dX2_readClosing_77 ?_
        refine g_iadd dX2_readClosing_78 ?_
        refine g_bipush dX2_readClosing_79 (by decide) ?_
        refine g_icmp_le ⟨by omega, by omega⟩ ⟨by decide, by decide⟩ (tgt := 94) dX2_readClosing_81 rfl (fun h81 => ?_) (fun h81 => ?_)
        · have e10' : σ41 9 10 = ((o - 1 : Nat) : Int) := by rw [e10]; omega
          have loop : ∀ k : Nat, k ≤ ((d 9 - B) * (w41 - 1)).toNat → ∀ (i : Int), i = (k : Int) → ∀ ρ : sT, PSt σ N st ht (rpF d (d 9 - B) k, q41) ρ → ρ 9 8 = w41 → ρ 9 10 = σ41 9 10 → ρ 15 = σ41 15 → FW g zX2_readClosing 0 0 (Ry l41 (PFt σ N st) (TSt σ N st ht) (rClose (σ 10) N d p o b)) 96 [some (.ref 9), some (iv B), some (iv (d 9 - B)), some (iv i)] [] ρ l41 := by
            refine loopUp _ (fun k hk ih i hi ρ hρ hρ8 hf9 hf15 => ?_)
            subst hi
            have h9 := rpF_9 d (d 9 - B) k
            refine g_iload3 dX2_readClosing_96 ?_
            refine g_iload2 dX2_readClosing_97 ?_
            refine g_aload0 dX2_readClosing_98 ?_
            refine f_geti (J := 8) rfl (by decide) rfl rfl fl_X2_41 dX2_readClosing_99 ?_
            rw [hρ8]
            refine g_iconst dX2_readClosing_102 ?_
            refine g_isub dX2_readClosing_103 ?_
            refine g_imul dX2_readClosing_104 ?_
            refine g_icmp_ge ⟨by omega, by omega⟩ ⟨by omega, by omega⟩ (tgt := 163) dX2_readClosing_105 rfl (fun h105 => ?_) (fun h105 => ?_)
            · have e9 : ((d 9 - B) * (w41 - 1)).toNat = k := by omega
              refine g_iconst dX2_readClosing_163 ?_
              refine g_iretB (Or.inr rfl) rfl dX2_readClosing_164 ?_
              refine Ry.yes (by unfold rClose; rw [if_neg (by omega)]; simp only [r41]; rw [hB, if_neg (by omega), e9]) ⟨hρ, hf9.trans e10', by show o - 1 ≤ 4; omega, fun j hj => ?_, fun j hj => ?_⟩
              · have hj2 : j < o - 1 := hj
                rw [hf15, n41.1.1 15 (by decide), up_n (by decide), up_n (by decide)]
                exact h.b j (by omega)
              · have hj2 : j < o - 1 := hj
                have a9 := h.r j (by omega)
                have a8 := rpF_9 d (d 9 - B) k
                show 0 ≤ b j ∧ b j ≤ rpF d (d 9 - B) k 9
                omega
            · have hc1 : 1 ≤ (d 9 - B) := by
                by_cases c : (d 9 - B) = 0
                · rw [c, Int.zero_mul] at h105; omega
                · omega
              refine g_aload0 dX2_readClosing_108 ?_
              refine f_getr (r := 11) rfl (by decide) rfl rfl fl_X2_31 dX2_readClosing_109 ?_
              refine f_getr (r := 14) rfl (by decide) rfl rfl fl_X2_195 dX2_readClosing_112 ?_
              refine g_aload0 dX2_readClosing_115 ?_
              refine f_getr (r := 11) rfl (by decide) rfl rfl fl_X2_31 dX2_readClosing_116 ?_
              refine f_geti (J := 9) rfl (by decide) rfl rfl fl_X2_192 dX2_readClosing_119 ?_
              rw [hρ.c.f9]
              refine g_aload0 dX2_readClosing_122 ?_
              refine f_getr (r := 11) rfl (by decide) rfl rfl fl_X2_31 dX2_readClosing_123 ?_
              refine f_getr (r := 14) rfl (by decide) rfl rfl fl_X2_195 dX2_readClosing_126 ?_
              refine g_aload0 dX2_readClosing_129 ?_
              refine f_getr (r := 11) rfl (by decide) rfl rfl fl_X2_31 dX2_readClosing_130 ?_
              refine f_geti (J := 9) rfl (by decide) rfl rfl fl_X2_192 dX2_readClosing_133 ?_
              rw [hρ.c.f9]
              refine g_iload2 dX2_readClosing_136 ?_
              refine g_isub dX2_readClosing_137 ?_
              refine f_cS2w (atI rfl (by decide) (by omega) (by show _ < ((40 : Nat) : Int); omega)) oY_X5_at oT_X5_at lk_X2_102 rfl dX2_readClosing_138 rfl (Or.inl rfl) ?_
              rw [hρ.c.tu _ (by omega) (by omega)]
              refine f_cS3d (putI rfl (by decide) (by omega) (by show _ < ((40 : Nat) : Int); omega)) oY_X5_put oT_X5_put lk_X2_56 rfl dX2_readClosing_141 rfl (Or.inl rfl) ?_
              refine g_aload0 dX2_readClosing_144 ?_
              refine f_getr (r := 11) rfl (by decide) rfl rfl fl_X2_31 dX2_readClosing_145 ?_
              refine g_dup rfl dX2_readClosing_148 ?_
              refine f_geti (J := 9) rfl (by decide) rfl rfl fl_X2_192 dX2_readClosing_149 ?_
              rw [up_n (by decide), hρ.c.f9]
              refine g_iconst dX2_readClosing_152 ?_
              refine g_iadd dX2_readClosing_153 ?_
              refine f_puti (J := 9) rfl (by decide) rfl rfl fl_X2_192 rfl (fun _ _ _ h => by cases h; rfl) dX2_readClosing_154 ?_
              refine g_iinc3 dX2_readClosing_157 rfl (by decide) ?_
              refine g_goto (tgt := 96) dX2_readClosing_160 rfl ?_
              refine ih (by omega) _ (by push_cast; omega) _ (hρ.set (d' := rpF d (d 9 - B) (k + 1)) (fun a ha => by rw [up_n (by omega), up_n (by omega)]) (hρ.c.ad (by have := hρ.s.holes; omega) (by omega)) (rpF_ok o1 hc1 (by omega) (k + 1) (by push_cast; omega))) (by rw [up_n (by decide), up_n (by decide)]; exact hρ8) (by rw [up_n (by decide), up_n (by decide)]; exact hf9) (by rw [up_n (by decide), up_n (by decide)]; exact hf15)
          refine g_iconst dX2_readClosing_94 ?_
          refine g_istore3 dX2_readClosing_95 rfl (by decide) ?_
          exact loop 0 (Nat.zero_le _) _ rfl _ Q41 x41 rfl rfl
        · refine g_aload0 dX2_readClosing_84 ?_
          refine g_iconst dX2_readClosing_85 ?_
          refine g_aload0 dX2_readClosing_86 ?_
          refine f_geti (J := 7) rfl (by decide) rfl rfl fl_X2_38 dX2_readClosing_87 ?_
          rw [e7]
          refine f_cV2x (fail_ok) rfl (by decide) rfl oY_X2_fail oI_X2_fail lk_X2_89 rfl dX2_readClosing_90 rfl (Or.inl rfl) ?_
          refine g_iretB (Or.inl rfl) rfl dX2_readClosing_93 ?_
          exact Ry.no (by unfold rClose; rw [if_neg (by omega)]; simp only [r41]; rw [hB, if_pos (by omega)]) (Q41.fail n9_fail (by rw [up_ne (by decide), up_eq]) up_eq)
    · exact (Rz.nx h41).elim
  · refine g_aload0 dX2_readClosing_7 ?_
    refine g_iconst dX2_readClosing_8 ?_
    refine g_aload0 dX2_readClosing_9 ?_
    refine f_geti (J := 6) rfl (by decide) rfl rfl fl_X2_35 dX2_readClosing_10 ?_
    rw [show τ 9 6 = (p : Int) from hP.pos]
    refine f_cV2x (fail_ok) rfl (by decide) rfl oY_X2_fail oI_X2_fail lk_X2_89 rfl dX2_readClosing_13 rfl (Or.inl rfl) ?_
    refine g_iretB (Or.inl rfl) rfl dX2_readClosing_16 ?_
    exact Ry.no (by unfold rClose; rw [if_pos (by omega)]) (hP.fail n9_fail (by rw [up_ne (by decide), up_eq]) up_eq)
end C62
