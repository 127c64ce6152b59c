/-! The six words: String's length and charAt -/
section C59
variable {g : gT} {y : yT} {k n : Nat} {Φ : mO → mM → Prop} {pc : Nat} {L : List (Option Value)} {st : List Value} {M : mM}
theorem g_sval {idx i : Nat} (hi : i < 6) (hw : Cond.fieldLink (yN y).cls idx "java/lang/String" "value" "[B" ∈ WS) (hd : decode (yB y) pc = .ok (.getfield idx, 3)) (h : GW g y k n Φ (pc + 3) L (.ref (KB + (8 + i)) :: st) M) : GW g y k n Φ pc L (.ref (KB + (2 + i)) :: st) M := by
  intro p e R s m args below meth c H locs cells slots ν ν0 n0 ls C hc hs hM hk hn hS hl
  have hG := C.2.2.2.2.2.2.2.2.2.2.2
  have h1 := h p e R s m args below meth c H locs cells slots ν ν0 n0 ls C hc hs hM hk hn hS hl
  rw [List.map_cons, show rV g ν (.ref (KB + (8 + i))) = .ref (gk g (8 + i)) from congrArg Value.ref rN_ge] at h1
  rw [List.map_cons, show rV g ν (.ref (KB + (2 + i))) = .ref (gk g (2 + i)) from congrArg Value.ref rN_ge]
  exact vk_getf C.1 C.2.1 (hG.2.2.2.2.2.2.2.2.2.2.1.1 i hi).2.2.1 hS C.2.2.2.1 (C.2.2.2.2.1 _ hw) (fun x hx => hx) hd h1
theorem g_scod {idx i : Nat} (hi : i < 6) (hw : Cond.fieldLink (yN y).cls idx "java/lang/String" "coder" "B" ∈ WS) (hd : decode (yB y) pc = .ok (.getfield idx, 3)) (h : GW g y k n Φ (pc + 3) L (iv 0 :: st) M) : GW g y k n Φ pc L (.ref (KB + (2 + i)) :: st) M := by
  intro p e R s m args below meth c H locs cells slots ν ν0 n0 ls C hc hs hM hk hn hS hl
  have hG := C.2.2.2.2.2.2.2.2.2.2.2
  have h1 := h p e R s m args below meth c H locs cells slots ν ν0 n0 ls C hc hs hM hk hn hS hl
  rw [List.map_cons, show rV g ν (iv 0) = .int 0 from rfl] at h1
  rw [List.map_cons, show rV g ν (.ref (KB + (2 + i))) = .ref (gk g (2 + i)) from congrArg Value.ref rN_ge]
  exact vk_getf C.1 C.2.1 (hG.2.2.2.2.2.2.2.2.2.2.1.1 i hi).2.1 hS C.2.2.2.1 (C.2.2.2.2.1 _ hw) (fun x hx => hx) hd h1
abbrev wdN (i : Nat) : Nat := STL.getD i 0
theorem g_salen {i : Nat} (hi : i < 6) (hd : decode (yB y) pc = .ok (.arraylength, 1)) (h : GW g y k n Φ (pc + 1) L (iv (wdN i : Nat) :: st) M) : GW g y k n Φ pc L (.ref (KB + (8 + i)) :: st) M := by
  intro p e R s m args below meth c H locs cells slots ν ν0 n0 ls C hc hs hM hk hn hS hl
  have hG := C.2.2.2.2.2.2.2.2.2.2.2
  have h1 := h p e R s m args below meth c H locs cells slots ν ν0 n0 ls C hc hs hM hk hn hS hl
  rw [List.map_cons, show rV g ν (.ref (KB + (8 + i))) = .ref (gk g (8 + i)) from congrArg Value.ref rN_ge]
  exact va_tlen C.1 C.2.1 (hG.2.2.2.2.2.2.2.2.2.2.1.1 i hi).2.2.2 hS (Int32.ofInt_eq_ofNat).symm hd h1
/-- the bytes of the words -/
def WD : List (List Int) := [[119, 104, 105, 115, 116, 108, 101], [104, 111, 108, 101], [108, 105, 109, 105, 116], [99, 111, 115, 116], [116, 117, 110, 101], [114, 101, 115, 116]]
abbrev wd (i j : Nat) : Int := (WD.getD i []).getD j 0
theorem wd_byte : ∀ i : Fin 6, ∀ j : Fin 7, j.val < wdN i.val → (Value.int ((STB.getD i.val []).getD j.val 0) = iv (wd i.val j.val)) ∧ 97 ≤ wd i.val j.val ∧ wd i.val j.val ≤ 122 ∧ wdN i.val ≤ 7 := by decide +kernel
theorem wdN_le {i : Nat} (hi : i < 6) : wdN i ≤ 7 := by
  have : ∀ i : Fin 6, wdN i.val ≤ 7 := by decide
  exact this ⟨i, hi⟩
theorem wd_rng {i j : Nat} (hi : i < 6) (hj : j < wdN i) : 97 ≤ wd i j ∧ wd i j ≤ 122 := by
  have h := wd_byte ⟨i, hi⟩ ⟨j, Nat.lt_of_lt_of_le hj (wdN_le hi)⟩ hj
  exact ⟨h.2.1, h.2.2.1⟩
theorem g_sbyte {i j : Nat} (hi : i < 6) (hj : j < wdN i) (hd : decode (yB y) pc = .ok (.baload, 1)) (h : GW g y k n Φ (pc + 1) L (iv (wd i j) :: st) M) : GW g y k n Φ pc L (iv (j : Int) :: .ref (KB + (8 + i)) :: st) M := by
  intro p e R s m args below meth c H locs cells slots ν ν0 n0 ls C hc hs hM hk hn hS hl
  have hG := C.2.2.2.2.2.2.2.2.2.2.2
  have h1 := h p e R s m args below meth c H locs cells slots ν ν0 n0 ls C hc hs hM hk hn hS hl
  have h7 := wdN_le hi
  rw [List.map_cons, List.map_cons, show rV g ν (.ref (KB + (8 + i))) = .ref (gk g (8 + i)) from congrArg Value.ref rN_ge]
  refine va_tb C.1 C.2.1 (hG.2.2.2.2.2.2.2.2.2.2.1.1 i hi).2.2.2 hS (in_ix (N := wdN i) ⟨by omega, by omega⟩ (by omega)) ?_ hd h1
  rw [ix_nat (by omega) (by omega), Int.toNat_natCast]
  exact (wd_byte ⟨i, hi⟩ ⟨j, by omega⟩ hj).1
theorem g_getC {idx : Nat} (hw : Cond.fieldLink (yN y).cls idx "java/lang/String" "COMPACT_STRINGS" "Z" ∈ WS) (hd : decode (yB y) pc = .ok (.getstatic idx, 3)) (h : GW g y k n Φ (pc + 3) L (iv 1 :: st) M) : GW g y k n Φ pc L st M := by
  intro p e R s m args below meth c H locs cells slots ν ν0 n0 ls C hc hs hM hk hn hS hl
  have hG := C.2.2.2.2.2.2.2.2.2.2.2
  have h1 := h p e R s m args below meth c H locs cells slots ν ν0 n0 ls C hc hs hM hk hn hS hl
  rw [List.map_cons, show rV g ν (iv 1) = .int 1 from rfl] at h1
  exact va_gets C.1 C.2.1 hG.2.2.2.2.2.2.2.2.2.2.2.2.1 hS C.2.2.2.1 (C.2.2.2.2.1 _ hw) (fun x hx => hx) hd h1
theorem g_getF {idx : Nat} (hw : Cond.fieldLink (yN y).cls idx "jdk/internal/util/Preconditions" "SIOOBE_FORMATTER" "Ljava/util/function/BiFunction;" ∈ WS) (hd : decode (yB y) pc = .ok (.getstatic idx, 3)) (hA : GW g y k n Φ (pc + 3) L (.null :: st) M) (hB : GW g y k n Φ (pc + 3) L (.ref (KB + 14) :: st) M) : GW g y k n Φ pc L st M := by
  intro p e R s m args below meth c H locs cells slots ν ν0 n0 ls C hc hs hM hk hn hS hl
  have hG := C.2.2.2.2.2.2.2.2.2.2.2
  rcases hG.2.2.2.2.2.2.2.2.2.2.2.2.2.1.1 with hz | hz
  · have h1 := hA p e R s m args below meth c H locs cells slots ν ν0 n0 ls C hc hs hM hk hn hS hl
    rw [List.map_cons] at h1
    exact va_gets C.1 C.2.1 hz hS C.2.2.2.1 (C.2.2.2.2.1 _ hw) (fun x hx => hx) hd h1
  · have h1 := hB p e R s m args below meth c H locs cells slots ν ν0 n0 ls C hc hs hM hk hn hS hl
    rw [List.map_cons, show rV g ν (.ref (KB + 14)) = .ref (gk g 14) from congrArg Value.ref rN_ge] at h1
    exact va_gets C.1 C.2.1 hz hS C.2.2.2.1 (C.2.2.2.2.1 _ hw) (fun x hx => hx) hd h1
theorem g_i2c {a : Int} (ha : 0 ≤ a ∧ a < 65536) (hd : decode (yB y) pc = .ok (.i2c, 1)) (h : GW g y k n Φ (pc + 1) L (iv a :: st) M) : GW g y k n Φ pc L (iv a :: st) M := by
  intro p e R s m args below meth c H locs cells slots ν ν0 n0 ls C hc hs hM hk hn hS hl
  exact lv_i2c C.1 C.2.1 hd (lg_i2c_word (by rw [toI ⟨by omega, by omega⟩]; exact ha.1) (by rw [toI ⟨by omega, by omega⟩]; exact ha.2)) (h p e R s m args below meth c H locs cells slots ν ν0 n0 ls C hc hs hM hk hn hS hl)
theorem nar_c : ∀ x : Fin 128, narrow .char (iv (x.val : Int)) = iv (x.val : Int) := by decide +kernel
theorem nar_ch {a : Int} (ha : 0 ≤ a ∧ a < 128) : narrow .char (iv a) = iv a := by
  have h := nar_c ⟨a.toNat, by omega⟩
  rw [show ((a.toNat : Nat) : Int) = a from by omega] at h
  exact h
theorem g_callK {y2 : yT} {idx i : Nat} {As : List Value} {Φ2 : mO → mM → Prop} (hR : Rn g y2 0 0 (.ref (KB + (2 + i)) :: As) M Φ2) (hi : i < 6) (hcl : (yN y2).cls = "java/lang/String") (hy : okY y2 As.length) (hI : okI y2) (hlk : LK (yN y).cls idx (yN y2)) (hF : fitY y y2 = true) (hd : decode (yB y) pc = .ok (.invokevirtual idx, 3)) (hcat : (st.map fun v => v.category).sum ≤ 8) (hok : okF y2 M.length L st)
    (kr : ∀ v M', Φ2 (.inl v) M' → GW g y k n Φ (pc + 3) L (v.toList ++ st) M')
    (kx : ∀ e M', Φ2 (.inr e) M' → yH y = [] ∧ Φ (.inr e) M') : GW g y k n Φ pc L (As.reverse ++ .ref (KB + (2 + i)) :: st) M := by
  refine g_after (y2 := y2) (k2 := 0) (n2 := 0) (Nat.zero_le _) (Nat.zero_le _) (fitY_of hF).2.2 hok (fun p e R s m args below meth c H locs cells slots ν ls C hc hs hM hS hsz => ?_) kr kx
  have hG := C.2.2.2.2.2.2.2.2.2.2.2
  have hw := C.2.2.2.2.1
  have hrec := vk_recv hG.2.2.2.2.2.2.2.2.2.2.1 hi hS
  rw [← hcl] at hrec
  have hrv : rV g ν (.ref (KB + (2 + i))) = .ref (gk g (2 + i)) := congrArg Value.ref rN_ge
  have hpre : PreV s H (yN y2).cls (gk g (2 + i)) (PcG g (.ref (KB + (2 + i)) :: As) ν M) (As.map (rV g ν)) := ⟨PcG_blind, hrec, fun U hU hW => ⟨by rw [List.map_cons, hrv], hG.at hS hU hW, by rw [hU]; exact hM⟩⟩
  have hst : (As.reverse ++ .ref (KB + (2 + i)) :: st).map (rV g ν) = (As.map (rV g ν)).reverse ++ .ref (gk g (2 + i)) :: st.map (rV g ν) := by
    rw [List.map_append, List.map_reverse, List.map_cons, hrv]
  rcases hlk with hlk | ⟨host, hlk⟩
  · exact ⟨_, vx_runV (Cx_fix C) (hR ν) ⟨callB_G C hy hF hlk, hw _ hI.1, hw _ hI.2⟩ hpre rfl (by rw [List.length_map]) hsz hst (room_cat hcat) hd ⟨hc, hs⟩⟩
  · exact ⟨_, vx_runVN (Cx_fix C) (hR ν) ⟨callN_G C hy hF hlk, hw _ hI.1, hw _ hI.2⟩ hpre rfl (by rw [List.length_map]) hsz hst (room_cat hcat) hd ⟨hc, hs⟩⟩
variable {σ : sT} {l : Nat → Nat}
theorem f_cK0w {y2 : yT} {idx i : Nat} {v : Value} (hR : Fw g y2 [.ref (KB + (2 + i))] σ l v) (hi : i < 6) (hcl : (yN y2).cls = "java/lang/String") (hy : okY y2 0) (hI : okI y2) (hlk : LK (yN y).cls idx (yN y2)) (hF : fitY y y2 = true) (hd : decode (yB y) pc = .ok (.invokevirtual idx, 3)) (hcat : Nat.ble ((st.map fun v => v.category).sum) 8 = true) (hok : okF y2 110 L st)
    (h : GW g y k n Φ (pc + 3) L (v :: st) (mem σ l)) : GW g y k n Φ pc L (.ref (KB + (2 + i)) :: st) (mem σ l) :=
  g_callK (As := []) hR hi hcl hy hI hlk hF hd (Nat.le_of_ble_eq_true hcat) (okF_len hok) (fun v9 M' ⟨σ', l', e, q1, q2, q3⟩ => by cases q1; subst q2; subst q3; subst e; exact h) (fun e9 M' ⟨σ', l', e, q1, q2, q3⟩ => by cases q1)
theorem f_cK1w {y2 : yT} {idx i : Nat} {v a1 : Value} (hR : Fw g y2 [.ref (KB + (2 + i)), a1] σ l v) (hi : i < 6) (hcl : (yN y2).cls = "java/lang/String") (hy : okY y2 1) (hI : okI y2) (hlk : LK (yN y).cls idx (yN y2)) (hF : fitY y y2 = true) (hd : decode (yB y) pc = .ok (.invokevirtual idx, 3)) (hcat : Nat.ble ((st.map fun v => v.category).sum) 8 = true) (hok : okF y2 110 L st)
    (h : GW g y k n Φ (pc + 3) L (v :: st) (mem σ l)) : GW g y k n Φ pc L (a1 :: .ref (KB + (2 + i)) :: st) (mem σ l) :=
  g_callK (As := [a1]) hR hi hcl hy hI hlk hF hd (Nat.le_of_ble_eq_true hcat) (okF_len hok) (fun v9 M' ⟨σ', l', e, q1, q2, q3⟩ => by cases q1; subst q2; subst q3; subst e; exact h) (fun e9 M' ⟨σ', l', e, q1, q2, q3⟩ => by cases q1)
theorem stCoder_ok {i : Nat} (hi : i < 6) : Fw g zJ0_coder_7d493 [.ref (KB + (2 + i))] σ l (iv 0) := by
  refine Fn.of [some (.ref (KB + (2 + i)))] rfl (by decide) (Nat.le_of_ble_eq_true rfl) rfl ?_
  refine g_getC (tt2 139 rfl rfl) dJ0_coder_7d493_0 ?_
  refine g_if_eq ⟨by decide, by decide⟩ (tgt := 13) dJ0_coder_7d493_3 rfl (fun h3 => absurd h3 (by decide)) (fun h3 => ?_)
  refine g_aload0 dJ0_coder_7d493_6 ?_
  refine g_scod hi (tt8 112 rfl rfl) dJ0_coder_7d493_7 ?_
  refine g_goto (tgt := 14) dJ0_coder_7d493_10 rfl ?_
  refine g_ireturn rfl rfl dJ0_coder_7d493_14 ?_
  exact Fw.ret rfl
theorem stLatin_ok {i : Nat} (hi : i < 6) : Fw g zJ0_isLatin1_aae02 [.ref (KB + (2 + i))] σ l (iv 1) := by
  refine Fn.of [some (.ref (KB + (2 + i)))] rfl (by decide) (Nat.le_of_ble_eq_true rfl) rfl ?_
  refine g_getC (tt2 139 rfl rfl) dJ0_isLatin1_aae02_0 ?_
  refine g_if_eq ⟨by decide, by decide⟩ (tgt := 17) dJ0_isLatin1_aae02_3 rfl (fun h3 => absurd h3 (by decide)) (fun h3 => ?_)
  refine g_aload0 dJ0_isLatin1_aae02_6 ?_
  refine g_scod hi (tt8 112 rfl rfl) dJ0_isLatin1_aae02_7 ?_
  refine g_if_ne ⟨by decide, by decide⟩ (tgt := 17) dJ0_isLatin1_aae02_10 rfl (fun h3 => absurd rfl h3) (fun h3 => ?_)
  refine g_iconst dJ0_isLatin1_aae02_13 ?_
  refine g_goto (tgt := 18) dJ0_isLatin1_aae02_14 rfl ?_
  refine g_iretB (Or.inr rfl) rfl dJ0_isLatin1_aae02_18 ?_
  exact Fw.ret rfl
theorem stLen_ok {i : Nat} (hi : i < 6) : Fw g zJ0_length_8abf5 [.ref (KB + (2 + i))] σ l (iv (wdN i : Int)) := by
  have h7 := wdN_le hi
  refine Fn.of [some (.ref (KB + (2 + i)))] rfl (by decide) (Nat.le_of_ble_eq_true rfl) rfl ?_
  refine g_aload0 dJ0_length_8abf5_0 ?_
  refine g_sval hi (tt8 111 rfl rfl) dJ0_length_8abf5_1 ?_
  refine g_salen hi dJ0_length_8abf5_4 ?_
  refine g_aload0 dJ0_length_8abf5_5 ?_
  refine f_cK0w (stCoder_ok hi) hi rfl oY_J0_coder_7d493 oI_J0_coder_7d493 lk_J0_335 rfl dJ0_length_8abf5_6 rfl (Or.inl rfl) ?_
  refine g_ishrN (b := 0) (by omega) (by decide) dJ0_length_8abf5_9 ?_
  rw [Nat.pow_zero, Nat.div_one]
  refine g_iretI rfl dJ0_length_8abf5_10 ?_
  exact Fw.ret rfl
theorem stPre_ok {i n2 : Int} {v : Value} (h0 : 0 ≤ i ∧ i < n2) (hn : n2 ≤ 1000) (hv : v.category = 1) : Fw g zJ3_checkIndex_8e157 [iv i, iv n2, v] σ l (iv i) := by
  have he : entL [iv i, iv n2, v] = [some (iv i), some (iv n2), some v] := by
    unfold entL
    rw [if_neg (show ¬ ((iv i).category = 2) from (by decide : ¬ ((1 : Nat) = 2)))]
    unfold entL
    rw [if_neg (show ¬ ((iv n2).category = 2) from (by decide : ¬ ((1 : Nat) = 2)))]
    unfold entL
    rw [if_neg (by rw [hv]; decide)]
    rfl
  refine Fn.of [some (iv i), some (iv n2), some v] rfl (by decide) (by rw [he]; exact (by decide : (3 : Nat) ≤ 3)) (by rw [he]; rfl) ?_
  refine g_iload0 dJ3_checkIndex_8e157_0 ?_
  refine g_if_lt ⟨by omega, by omega⟩ (tgt := 9) dJ3_checkIndex_8e157_1 rfl (fun h1 => absurd h1 (by omega)) (fun h1 => ?_)
  refine g_iload0 dJ3_checkIndex_8e157_4 ?_
  refine g_iload1 dJ3_checkIndex_8e157_5 ?_
  refine g_icmp_lt ⟨by omega, by omega⟩ ⟨by omega, by omega⟩ (tgt := 16) dJ3_checkIndex_8e157_6 rfl (fun h6 => ?_) (fun h6 => absurd h6 (by omega))
  refine g_iload0 dJ3_checkIndex_8e157_16 ?_
  refine g_iretI rfl dJ3_checkIndex_8e157_17 ?_
  exact Fw.ret rfl
theorem stIdx_ok {i n2 : Int} (h0 : 0 ≤ i ∧ i < n2) (hn : n2 ≤ 1000) : FO g zJ0_checkIndex_df160 [iv i, iv n2] σ l σ := by
  refine Fn.of [some (iv i), some (iv n2)] rfl (by decide) (Nat.le_of_ble_eq_true rfl) rfl ?_
  refine g_iload0 dJ0_checkIndex_df160_0 ?_
  refine g_iload1 dJ0_checkIndex_df160_1 ?_
  refine g_getF (tt2 158 rfl rfl) dJ0_checkIndex_df160_2 ?_ ?_
  · refine f_cS3w (stPre_ok h0 hn rfl) oY_J3_checkIndex_8e157 oT_J3_checkIndex_8e157 lk_J0_1059 rfl dJ0_checkIndex_df160_5 rfl (Or.inl rfl) ?_
    refine g_pop rfl dJ0_checkIndex_df160_8 ?_
    refine g_return rfl dJ0_checkIndex_df160_9 ?_
    exact FO.ret rfl
  · refine f_cS3w (stPre_ok h0 hn rfl) oY_J3_checkIndex_8e157 oT_J3_checkIndex_8e157 lk_J0_1059 rfl dJ0_checkIndex_df160_5 rfl (Or.inl rfl) ?_
    refine g_pop rfl dJ0_checkIndex_df160_8 ?_
    refine g_return rfl dJ0_checkIndex_df160_9 ?_
    exact FO.ret rfl
theorem stL1_ok {i j : Nat} (hi : i < 6) (hj : j < wdN i) : Fw g zJ1_charAt_3b067 [.ref (KB + (8 + i)), iv (j : Int)] σ l (iv (wd i j)) := by
  have h7 := wdN_le hi
  have hr := wd_rng hi hj
  refine Fn.of [some (.ref (KB + (8 + i))), some (iv (j : Int))] rfl (by decide) (Nat.le_of_ble_eq_true rfl) rfl ?_
  refine g_iload1 dJ1_charAt_3b067_0 ?_
  refine g_aload0 dJ1_charAt_3b067_1 ?_
  refine g_salen hi dJ1_charAt_3b067_2 ?_
  refine f_cS2d (stIdx_ok ⟨by omega, by omega⟩ (by omega)) oY_J0_checkIndex_df160 oT_J0_checkIndex_df160 lk_J1_9 rfl dJ1_charAt_3b067_3 rfl (Or.inl rfl) ?_
  refine g_aload0 dJ1_charAt_3b067_6 ?_
  refine g_iload1 dJ1_charAt_3b067_7 ?_
  refine g_sbyte hi hj dJ1_charAt_3b067_8 ?_
  refine g_sipush dJ1_charAt_3b067_9 (by decide) ?_
  obtain ⟨b, hb⟩ : ∃ b : Nat, wd i j = (b : Int) := ⟨(wd i j).toNat, by omega⟩
  rw [hb] at hr ⊢
  refine g_iand (b := 255) dJ1_charAt_3b067_12 ?_
  rw [show b &&& 255 = b from by rw [show 255 = 2 ^ 8 - 1 from rfl, Nat.and_two_pow_sub_one_eq_mod]; omega]
  refine g_i2c ⟨by omega, by omega⟩ dJ1_charAt_3b067_13 ?_
  refine g_ireturn rfl (nar_ch ⟨by omega, by omega⟩) dJ1_charAt_3b067_14 ?_
  exact Fw.ret rfl
theorem stChar_ok {i j : Nat} (hi : i < 6) (hj : j < wdN i) : Fw g zJ0_charAt_5068e [.ref (KB + (2 + i)), iv (j : Int)] σ l (iv (wd i j)) := by
  have hr := wd_rng hi hj
  refine Fn.of [some (.ref (KB + (2 + i))), some (iv (j : Int))] rfl (by decide) (Nat.le_of_ble_eq_true rfl) rfl ?_
  refine g_aload0 dJ0_charAt_5068e_0 ?_
  refine f_cK0w (stLatin_ok hi) hi rfl oY_J0_isLatin1_aae02 oI_J0_isLatin1_aae02 lk_J0_492 rfl dJ0_charAt_5068e_1 rfl (Or.inl rfl) ?_
  refine g_if_eq ⟨by decide, by decide⟩ (tgt := 16) dJ0_charAt_5068e_4 rfl (fun h3 => absurd h3 (by decide)) (fun h3 => ?_)
  refine g_aload0 dJ0_charAt_5068e_7 ?_
  refine g_sval hi (tt8 111 rfl rfl) dJ0_charAt_5068e_8 ?_
  refine g_iload1 dJ0_charAt_5068e_11 ?_
  refine f_cS2w (stL1_ok hi hj) oY_J1_charAt_3b067 oT_J1_charAt_3b067 lk_J0_495 rfl dJ0_charAt_5068e_12 rfl (Or.inl rfl) ?_
  refine g_ireturn rfl (nar_ch ⟨by omega, by omega⟩) dJ0_charAt_5068e_15 ?_
  exact Fw.ret rfl
end C59
