/-! Methods that catch: the law's helpers -/
section C92
theorem CWH {y : yT} (h : yH y ≠ []) : CW y = .codeWith (yN y) (yB y) (yM y) (yR y) (yH y) := by
  unfold CW
  split
  · next h2 => exact absurd h2 h
  · rfl
theorem Rn.ofH {g : gT} {y : yT} {k n : Nat} {as : List Value} {M : mM} {Φ : mO → mM → Prop} (L : List (Option Value)) (hH : yH y ≠ []) (hp : plainName (yN y).cls = true) (hlen : (entL as).length ≤ yM y) (hL : entL as ++ List.replicate (yM y - (entL as).length) none = L)
    (h : GW g y k n Φ 0 L [] M) : Rn g y k n as M Φ := by
  intro ν
  have hcw := CWH hH
  refine vx_ofWH (hh := yH y) (ws' := WS) hp (by rw [hcw]) ?_
  intro p e s m args below meth c s₁ B hml hP
  obtain ⟨rfl, hG, hM⟩ := hP
  have hpre := atoms_spec (ws := CW y :: WS) B.pre
  have ht : c.exceptionTable.toList = tableOf (yH y) := vx_table (x := yN y) B (by
    have h9 := hpre _ List.mem_cons_self
    rw [hcw] at h9
    exact h9)
  have C : Cx g y p (rmY y k n) s m (as.map (rV g ν)).toArray meth c :=
    ⟨B.exec, B.bytes, hml, findClass_of_methodNamed B.named, fun w hw => hpre w (List.mem_cons_of_mem _ hw), B.returns, B.notSynchronized, (name_of_methodNamed B.named B.method).1, Nat.le_refl _, Nat.le_refl _, ht, hG⟩
  have hlen2 : (lg_sl (as.map (rV g ν))).length ≤ yM y := by rw [entL_len, entL_map, List.length_map]; exact hlen
  have hent := lv_entry (as.map (rV g ν)) hlen2
  rw [lg_entry_eq]
  refine h p e (rmY y k n) s m _ below meth c s.heap [] 0 0 ν ν M.length _ C (by rw [Nat.zero_add]; exact Nat.le_refl _) (by rw [Nat.zero_add]; exact Nat.le_refl _) hM ?_ (Nat.le_refl _) va_S.rf (lv_mono ?_ hent)
  · rcases yK y with _ | _ | _
    · rfl
    · intro _ _; rfl
    · intro _ _ _; rfl
  · rintro ⟨i, w⟩ hq
    obtain ⟨u, h1, h2⟩ := mem_rL.mp hq
    have h3 := mem_lvE.mp h1
    rw [← hL] at h3
    dsimp only at h2 h3
    by_cases hi : i < (entL as).length
    · rw [List.getElem?_append_left hi] at h3
      have h4 : (entL (as.map (rV g ν)))[i]? = some (some w) := by rw [entL_map, List.getElem?_map, h3, ← h2]; rfl
      have h5 := entL_mem _ 0 i w h4
      rw [Nat.zero_add] at h5
      exact h5
    · rw [List.getElem?_append_right (Nat.not_lt.mp hi), List.getElem?_replicate] at h3
      split at h3 <;> cases h3
def okYH (y2 : yT) (na : Nat) : Prop := yH y2 ≠ [] ∧ Cond.codeWith (yN y2) (yB y2) (yM y2) (yR y2) (yH y2) ∈ WS ∧ Cond.initialized (yN y2).cls ∈ WS ∧ ((yN y2).cls ≠ "java/lang/invoke/MethodHandle" ∧ (yN y2).cls ≠ "java/lang/invoke/VarHandle") ∧ (parseMethodDescriptor (yN y2).desc).map (fun d => d.parameters.length) = some na
theorem good_consH {y2 : yT} {na : Nat} (h : okYH y2 na) : GoodIn WS (CW y2 :: WS) := by
  intro w hw
  rcases List.mem_cons.mp hw with rfl | h1
  · rw [CWH h.1]; exact WS_good _ h.2.1
  · exact WS_good _ h1
section
variable {g : gT} {y : yT} {k n : Nat} {Φ : mO → mM → Prop} {pc : Nat} {L : List (Option Value)} {st : List Value} {M : mM}
theorem g_callSX {y2 : yT} {idx k2 n2 : Nat} {As : List Value} {Φ2 : mO → mM → Prop} (hR : Rn g y2 k2 n2 As M Φ2) (hy : okYH y2 As.length) (hI : okT y2) (hlk : Cond.methodLink (yN y).cls idx (yN y2) ∈ WS) (hF : fitY y y2 = true) (hd : decode (yB y) pc = .ok (.invokestatic idx, 3)) (hk2 : k2 ≤ k) (hn2 : n2 ≤ n) (hcat : (st.map fun v => v.category).sum ≤ 8) (hok : okF y2 M.length L st)
    (kr : ∀ v M', Φ2 (.inl v) M' → GW g y (k - k2) (n - n2) Φ (pc + 3) L (v.toList ++ st) M')
    (kx : ∀ e M', Φ2 (.inr e) M' → yH y = [] ∧ Φ (.inr e) M') : GW g y k n Φ pc L (As.reverse ++ st) M := by
  refine g_after (y2 := y2) hk2 hn2 (fitY_of hF).2.2 hok (fun p e R s m args below meth c H locs cells slots ν ls C hc hs hM hS hsz => ?_) kr kx
  have hG := C.2.2.2.2.2.2.2.2.2.2.2
  have hw := C.2.2.2.2.1
  have hf := fitY_of hF
  have h1 : yF y ≤ R.frames := C.2.2.2.2.2.2.2.2.1
  have h2 : yL y ≤ R.locals := C.2.2.2.2.2.2.2.2.2.1
  have hpre : PreS s H (PcG g As ν M) (As.map (rV g ν)) := ⟨PcG_blind, fun U hU hW => ⟨rfl, hG.at hS hU hW, by rw [hU]; exact hM⟩⟩
  have hst : (As.reverse ++ st).map (rV g ν) = (As.map (rV g ν)).reverse ++ st.map (rV g ν) := by
    rw [List.map_append, List.map_reverse]
  have hcs : vx_CSW R s args (yN y).cls idx (yN y2) (yB y2) (yM y2) (yR y2) (yH y2) (CW y2 :: WS) (rmY y2 k2 n2) k2 n2 As.length :=
    ⟨⟨rfl, rfl, Nat.le_trans hf.1 h1, Nat.le_trans hf.2.1 h2, pay_in hw (good_consH hy), by rw [CWH hy.1]; exact List.mem_cons_self⟩, hw _ hy.2.1, hw _ hy.2.2.1, hy.2.2.2.1, fun sig h => by
      have h9 := hy.2.2.2.2
      rw [h] at h9
      exact (Option.some.inj h9).symm, hw _ hlk, hw _ hI⟩
  exact ⟨_, vx_runSX (hh := yH y2) (Cx_fix C) (hR ν) hcs hpre rfl (by rw [List.length_map]) hsz hst (room_cat hcat) hd ⟨hc, hs⟩⟩
variable {σ : sT} {l : Nat → Nat}
theorem f_callSX {y2 : yT} {idx k2 n2 : Nat} {As : List Value} {v : Value} {R : sT → (Nat → Nat) → Prop} (hR : Fn g y2 k2 n2 As σ l (fun o τ l' => o = .inl (some v) ∧ R τ l')) (hy : okYH y2 As.length) (hI : okT y2) (hlk : Cond.methodLink (yN y).cls idx (yN y2) ∈ WS) (hF : fitY y y2 = true) (hd : decode (yB y) pc = .ok (.invokestatic idx, 3)) (hk2 : k2 ≤ k) (hn2 : n2 ≤ n) (hcat : Nat.ble ((st.map fun v => v.category).sum) 8 = true) (hok : okF y2 110 L st)
    (kr : ∀ σ' l', R σ' l' → GW g y (k - k2) (n - n2) Φ (pc + 3) L (v :: st) (mem σ' l')) : GW g y k n Φ pc L (As.reverse ++ st) (mem σ l) :=
  g_callSX hR hy hI hlk hF hd hk2 hn2 (Nat.le_of_ble_eq_true hcat) (okF_len hok) (fun v' M' ⟨σ', l', e, h1, h⟩ => by cases h1; subst e; exact kr σ' l' h) (fun e9 M' ⟨σ', l', e, h1, h⟩ => by cases h1)
theorem f_cS2H {y2 : yT} {idx k2 n2 : Nat} {a1 a2 : Value} {v : Value} {R : sT → (Nat → Nat) → Prop} (hR : Fn g y2 k2 n2 [a1, a2] σ l (fun o τ l' => o = .inl (some v) ∧ R τ l')) (hy : okYH y2 2) (hI : okT y2) (hlk : Cond.methodLink (yN y).cls idx (yN y2) ∈ WS) (hF : fitY y y2 = true) (hd : decode (yB y) pc = .ok (.invokestatic idx, 3)) (hk2 : k2 ≤ k) (hn2 : n2 ≤ n) (hcat : Nat.ble ((st.map fun v => v.category).sum) 8 = true) (hok : okF y2 110 L st)
    (kr : ∀ σ' l', R σ' l' → GW g y (k - k2) (n - n2) Φ (pc + 3) L (v :: st) (mem σ' l')) : GW g y k n Φ pc L (a2 :: a1 :: st) (mem σ l) :=
  f_callSX (As := [a1, a2]) hR hy hI hlk hF hd hk2 hn2 hcat hok kr
theorem f_cS3H {y2 : yT} {idx k2 n2 : Nat} {a1 a2 a3 : Value} {v : Value} {R : sT → (Nat → Nat) → Prop} (hR : Fn g y2 k2 n2 [a1, a2, a3] σ l (fun o τ l' => o = .inl (some v) ∧ R τ l')) (hy : okYH y2 3) (hI : okT y2) (hlk : Cond.methodLink (yN y).cls idx (yN y2) ∈ WS) (hF : fitY y y2 = true) (hd : decode (yB y) pc = .ok (.invokestatic idx, 3)) (hk2 : k2 ≤ k) (hn2 : n2 ≤ n) (hcat : Nat.ble ((st.map fun v => v.category).sum) 8 = true) (hok : okF y2 110 L st)
    (kr : ∀ σ' l', R σ' l' → GW g y (k - k2) (n - n2) Φ (pc + 3) L (v :: st) (mem σ' l')) : GW g y k n Φ pc L (a3 :: a2 :: a1 :: st) (mem σ l) :=
  f_callSX (As := [a1, a2, a3]) hR hy hI hlk hF hd hk2 hn2 hcat hok kr
theorem f_cS4H {y2 : yT} {idx k2 n2 : Nat} {a1 a2 a3 a4 : Value} {v : Value} {R : sT → (Nat → Nat) → Prop} (hR : Fn g y2 k2 n2 [a1, a2, a3, a4] σ l (fun o τ l' => o = .inl (some v) ∧ R τ l')) (hy : okYH y2 4) (hI : okT y2) (hlk : Cond.methodLink (yN y).cls idx (yN y2) ∈ WS) (hF : fitY y y2 = true) (hd : decode (yB y) pc = .ok (.invokestatic idx, 3)) (hk2 : k2 ≤ k) (hn2 : n2 ≤ n) (hcat : Nat.ble ((st.map fun v => v.category).sum) 8 = true) (hok : okF y2 110 L st)
    (kr : ∀ σ' l', R σ' l' → GW g y (k - k2) (n - n2) Φ (pc + 3) L (v :: st) (mem σ' l')) : GW g y k n Φ pc L (a4 :: a3 :: a2 :: a1 :: st) (mem σ l) :=
  f_callSX (As := [a1, a2, a3, a4]) hR hy hI hlk hF hd hk2 hn2 hcat hok kr
theorem f_cS5H {y2 : yT} {idx k2 n2 : Nat} {a1 a2 a3 a4 a5 : Value} {v : Value} {R : sT → (Nat → Nat) → Prop} (hR : Fn g y2 k2 n2 [a1, a2, a3, a4, a5] σ l (fun o τ l' => o = .inl (some v) ∧ R τ l')) (hy : okYH y2 5) (hI : okT y2) (hlk : Cond.methodLink (yN y).cls idx (yN y2) ∈ WS) (hF : fitY y y2 = true) (hd : decode (yB y) pc = .ok (.invokestatic idx, 3)) (hk2 : k2 ≤ k) (hn2 : n2 ≤ n) (hcat : Nat.ble ((st.map fun v => v.category).sum) 8 = true) (hok : okF y2 110 L st)
    (kr : ∀ σ' l', R σ' l' → GW g y (k - k2) (n - n2) Φ (pc + 3) L (v :: st) (mem σ' l')) : GW g y k n Φ pc L (a5 :: a4 :: a3 :: a2 :: a1 :: st) (mem σ l) :=
  f_callSX (As := [a1, a2, a3, a4, a5]) hR hy hI hlk hF hd hk2 hn2 hcat hok kr
/-- the row of the table that takes it -/
def okCt (y : yT) (pc e hpc : Nat) : Prop := ∃ (pre : List (Nat × Nat × Nat × Nat)) (x : Nat × Nat × Nat × Nat) (suf : List (Nat × Nat × Nat × Nat)), yH y = pre ++ x :: suf ∧ covers ⟨x.1, x.2.1, x.2.2.1, x.2.2.2⟩ pc = true ∧ x.2.2.1 = hpc ∧ x.2.2.2 ≠ 0 ∧ Cond.classLink (yN y).cls x.2.2.2 (XN e) ∈ WS ∧ Cond.castable (XN e) (XN e) ∈ NW ∧ ∀ z ∈ pre, e = 0 ∧ z.2.2.2 ≠ 0 ∧ Cond.classLink (yN y).cls z.2.2.2 (XN 1) ∈ WS
theorem f_callVH {y2 : yT} {idx b ci e hpc w : Nat} {As : List Value} (hR : Ft g y2 (.ref b :: As) σ l e) (hkd : kd b = ci + 10) (hb : b < 110) (hci : (CL[ci]?).map (·.1) = some (yN y2).cls) (hy : okY y2 As.length) (hI : okI y2) (hlk : LK (yN y).cls idx (yN y2)) (hF : fitY y y2 = true) (hd : decode (yB y) pc = .ok (.invokevirtual idx, 3)) (hk2 : 1 ≤ k) (hn2 : 6 ≤ n) (hcat : Nat.ble ((st.map fun v => v.category).sum) 8 = true) (hct : okCt y pc e hpc)
    (hst : (∃ i : Fin 4, decode (yB y) hpc = .ok (.astore_n i, 1) ∧ (i : Nat) < yM y ∧ w = 1) ∨ ∃ i : Nat, decode (yB y) hpc = .ok (.astore i, 2) ∧ i < yM y ∧ w = 2)
    (h : GW g y (k - 1) (n - 6) Φ (hpc + w) [] [] (mem σ l)) : GW g y k n Φ pc L (As.reverse ++ .ref b :: st) (mem σ l) := by
  intro p e0 R s m args below meth c H locs cells slots ν ν0 n0 ls C hc hs hM hk hn hS hl
  have hM0 : (mem σ l)[b]? = some (.inr (ci, fldK ci b (σ b))) := (mem_get hb).trans (congrArg some (cell_obj hkd))
  have hG := C.2.2.2.2.2.2.2.2.2.2.2
  have hw := C.2.2.2.2.1
  have hat := rW_at (g := g) (ν := ν) hM0
  obtain ⟨q, hq⟩ : ∃ q, CL[ci]? = some q := by
    cases h : CL[ci]? with
    | none => rw [h] at hci; cases hci
    | some q => exact ⟨q, rfl⟩
  have hqc : q.1 = (yN y2).cls := by rw [hq] at hci; exact Option.some.inj hci
  have hrec := va_recv hG.1 hM.1 hq hat
  rw [hqc] at hrec
  have hpre : PreV s H (yN y2).cls (ν b) (PcG g (.ref b :: As) ν (mem σ l)) (As.map (rV g ν)) := ⟨PcG_blind, hrec, fun U hU hW => ⟨by rw [List.map_cons, st_ref hM hM0], hG.at hS hU hW, by rw [hU]; exact hM⟩⟩
  have hst2 : (As.reverse ++ .ref b :: st).map (rV g ν) = (As.map (rV g ν)).reverse ++ .ref (ν b) :: st.map (rV g ν) := by
    rw [List.map_append, List.map_reverse, List.map_cons, st_ref hM hM0]
  have hrun : ∃ a, vx_Run p (gL g) e0 R s m args below meth c H locs cells slots 1 6 (F0 m pc ls ((As.reverse ++ .ref b :: st).map (rV g ν))) (st.map (rV g ν)) (QC g y2 ν (mem σ l).length (fΦ (fun o σ' l' => o = .inr e ∧ σ' = σ ∧ l' = l)) a) (XC g y2 ν (mem σ l).length (fΦ (fun o σ' l' => o = .inr e ∧ σ' = σ ∧ l' = l))) (gA g) := by
    rcases hlk with hlk | ⟨host, hlk⟩
    · exact ⟨_, vx_runV (Cx_fix C) (hR ν) ⟨callB_G C hy hF hlk, hw _ hI.1, hw _ hI.2⟩ hpre rfl (by rw [List.length_map]) hl.1 hst2 (room_cat (Nat.le_of_ble_eq_true hcat)) hd ⟨by omega, by omega⟩⟩
    · exact ⟨_, vx_runVN (Cx_fix C) (hR ν) ⟨callN_G C hy hF hlk, hw _ hI.1, hw _ hI.2⟩ hpre rfl (by rw [List.length_map]) hl.1 hst2 (room_cat (Nat.le_of_ble_eq_true hcat)) hd ⟨by omega, by omega⟩⟩
  obtain ⟨a, hr⟩ := hrun
  refine g_run hr hS (fun v M' ν' H1 locs1 hΦ hM1 hk1 hn1 hS1 => ?_) (fun e9 M' ν' H1 locs1 q9 ce hΦ hM1 hk1 hn1 hS1 hce hcv hcl => ?_)
  · obtain ⟨_, _, _, h1, _, _⟩ := hΦ
    cases h1
  · obtain ⟨τ, l', eM, h1, h2, h3⟩ := hΦ
    cases h1
    subst h2
    subst h3
    subst eM
    obtain ⟨pre, x, suf, e1, e2, e3, e4, e5, e6, e7⟩ := hct
    have htab := C.2.2.2.2.2.2.2.2.2.2.1
    have hkp := kp_trans hk hk1 (fitY_of hF).2.2 hn
    have hn9 := Nat.le_trans hn hn1
    refine vx_catch (name := XN e) C.2.2.2.1 (tableOf pre) ⟨x.1, x.2.1, x.2.2.1, x.2.2.2⟩ (tableOf suf) (by rw [htab, e1]; simp [tableOf]) ?_ e2 e4 (hw _ e5) (va_Nw.use (nest_tabs (NW_nest e6)) (hG.2.2.1 _ e6)) hce hcv hcl ?_
    · intro z hz
      obtain ⟨z0, hz0, rfl⟩ := List.mem_map.mp hz
      obtain ⟨a1, a2, a3⟩ := e7 z0 hz0
      subst a1
      exact Or.inr ⟨a2, _, hw _ a3, hG.2.2.2.2.2.2.2.2.2.2.2.2.2.1.2⟩
    · show W p (gL g) e0 R s m args below meth c H1 locs1 (cells + 1) (slots + 6) _ (F0 m x.2.2.1 ls [.ref q9])
      rw [e3]
      rcases hst with ⟨i, d1, d2, d3⟩ | ⟨i, d1, d2, d3⟩
      · subst d3
        exact lv_astore_n C.1 C.2.1 d1 rfl hl d2 rfl (fun ls' hl' => h p e0 R s m args below meth c H1 locs1 (cells + 1) (slots + 6) ν' ν0 n0 ls' C (by omega) (by omega) hM1 hkp hn9 hS1 (lv_mono (fun q hq => by cases hq) hl'))
      · subst d3
        exact lv_astore C.1 C.2.1 d1 hl d2 rfl (fun ls' hl' => h p e0 R s m args below meth c H1 locs1 (cells + 1) (slots + 6) ν' ν0 n0 ls' C (by omega) (by omega) hM1 hkp hn9 hS1 (lv_mono (fun q hq => by cases hq) hl'))
end
theorem ct_IAE : Cond.castable (XN 0) (XN 0) ∈ NW := tn4 79 rfl rfl
theorem ct_IOB : Cond.castable (XN 1) (XN 1) ∈ NW := tn4 163 rfl rfl
theorem cl_IAE : Cond.classLink RL 13 (XN 0) ∈ WS := tt4 68 rfl rfl
theorem cl_IOB : Cond.classLink RL 19 (XN 1) ∈ WS := tt4 148 rfl rfl
variable {g : gT} {σ : sT} {l : Nat → Nat}
theorem oYX_L_size : okYH zL_size 3 := ⟨by decide, oYH_L_size, (tt1 0 rfl rfl), ⟨by decide, by decide⟩, by decide +kernel⟩
theorem hp_size_ok {a V : Int} {k n : Nat} {R : sT → (Nat → Nat) → Prop} (hV : R32 V) (h : Fn g zX5_size k n [.ref 0, iv a] σ l (fun o τ l' => o = .inl (some (iv V)) ∧ R τ l')) : Fn g zL_size k n [.ref 0, iv a, .ref 108] σ l (fun o ω l' => o = .inl (some (iv 0)) ∧ ∃ τ, R τ l' ∧ ω = up τ 108 0 V) := by
  refine Rn.ofH [some (.ref 0), some (iv a), some (.ref 108), none] (by decide) (by decide) (Nat.le_of_ble_eq_true rfl) rfl ?_
  refine g_aload2 dL_size_0 ?_
  refine g_iconst dL_size_1 ?_
  refine g_aload0 dL_size_2 ?_
  refine g_iload1 dL_size_3 ?_
  refine f_cV1q (h) rfl (by decide) rfl oY_X5_size oI_X5_size lk_L_7 rfl dL_size_4 (Nat.le_refl _) (Nat.le_refl _) rfl (Or.inl rfl) (fun σ4 l4 h4 => ?_)
  refine g_i2l hV dL_size_7 ?_
  refine f_last rfl (by decide) ⟨by omega, by show _ < ((1 : Nat) : Int); omega⟩ dL_size_8 ?_
  refine g_goto (tgt := 15) dL_size_9 rfl ?_
  refine g_iconst dL_size_15 ?_
  refine g_iretI rfl dL_size_16 ?_
  exact fn_ret ⟨rfl, σ4, h4, rfl⟩
theorem hp_size_t1 {a : Int} (h : Ft g zX5_size [.ref 0, iv a] σ l 0) : Fn g zL_size 1 6 [.ref 0, iv a, .ref 108] σ l (fun o ω l' => o = .inl (some (iv 1)) ∧ ω = σ ∧ l' = l) := by
  refine Rn.ofH [some (.ref 0), some (iv a), some (.ref 108), none] (by decide) (by decide) (Nat.le_of_ble_eq_true rfl) rfl ?_
  refine g_aload2 dL_size_0 ?_
  refine g_iconst dL_size_1 ?_
  refine g_aload0 dL_size_2 ?_
  refine g_iload1 dL_size_3 ?_
  refine f_callVH (w := 1) (As := [iv a]) (e := 0) (hpc := 12) h rfl (by decide) rfl oY_X5_size oI_X5_size lk_L_7 rfl dL_size_4 (by decide) (by decide) rfl ⟨[], (0, 9, 12, 13), [], rfl, rfl, rfl, by decide, cl_IAE, ct_IAE, fun z hz => by cases hz⟩ (Or.inl ⟨3, dL_size_12, by decide, rfl⟩) ?_
  refine g_iconst dL_size_13 ?_
  refine g_iretI rfl dL_size_14 ?_
  exact fn_ret ⟨rfl, rfl, rfl⟩
theorem oYX_L_hole : okYH zL_hole 4 := ⟨by decide, oYH_L_hole, (tt1 0 rfl rfl), ⟨by decide, by decide⟩, by decide +kernel⟩
theorem hp_hole_ok {a b V : Int} {k n : Nat} {R : sT → (Nat → Nat) → Prop} (hV : R32 V) (h : Fn g zX5_hole k n [.ref 0, iv a, iv b] σ l (fun o τ l' => o = .inl (some (iv V)) ∧ R τ l')) : Fn g zL_hole k n [.ref 0, iv a, iv b, .ref 108] σ l (fun o ω l' => o = .inl (some (iv 0)) ∧ ∃ τ, R τ l' ∧ ω = up τ 108 0 V) := by
  refine Rn.ofH [some (.ref 0), some (iv a), some (iv b), some (.ref 108), none] (by decide) (by decide) (Nat.le_of_ble_eq_true rfl) rfl ?_
  refine g_aload3 dL_hole_0 ?_
  refine g_iconst dL_hole_1 ?_
  refine g_aload0 dL_hole_2 ?_
  refine g_iload1 dL_hole_3 ?_
  refine g_iload2 dL_hole_4 ?_
  refine f_cV2q (h) rfl (by decide) rfl oY_X5_hole oI_X5_hole lk_L_15 rfl dL_hole_5 (Nat.le_refl _) (Nat.le_refl _) rfl (Or.inl rfl) (fun σ5 l5 h5 => ?_)
  refine g_i2l hV dL_hole_8 ?_
  refine f_last rfl (by decide) ⟨by omega, by show _ < ((1 : Nat) : Int); omega⟩ dL_hole_9 ?_
  refine g_goto (tgt := 21) dL_hole_10 rfl ?_
  refine g_iconst dL_hole_21 ?_
  refine g_iretI rfl dL_hole_22 ?_
  exact fn_ret ⟨rfl, σ5, h5, rfl⟩
theorem hp_hole_t1 {a b : Int} (h : Ft g zX5_hole [.ref 0, iv a, iv b] σ l 1) : Fn g zL_hole 1 6 [.ref 0, iv a, iv b, .ref 108] σ l (fun o ω l' => o = .inl (some (iv 1)) ∧ ω = σ ∧ l' = l) := by
  refine Rn.ofH [some (.ref 0), some (iv a), some (iv b), some (.ref 108), none] (by decide) (by decide) (Nat.le_of_ble_eq_true rfl) rfl ?_
  refine g_aload3 dL_hole_0 ?_
  refine g_iconst dL_hole_1 ?_
  refine g_aload0 dL_hole_2 ?_
  refine g_iload1 dL_hole_3 ?_
  refine g_iload2 dL_hole_4 ?_
  refine f_callVH (w := 2) (As := [iv a, iv b]) (e := 1) (hpc := 13) h rfl (by decide) rfl oY_X5_hole oI_X5_hole lk_L_15 rfl dL_hole_5 (by decide) (by decide) rfl ⟨[], (0, 10, 13, 19), [(0, 10, 17, 13)], rfl, rfl, rfl, by decide, cl_IOB, ct_IOB, fun z hz => by cases hz⟩ (Or.inr ⟨4, dL_hole_13, by decide, rfl⟩) ?_
  refine g_iconst dL_hole_15 ?_
  refine g_iretI rfl dL_hole_16 ?_
  exact fn_ret ⟨rfl, rfl, rfl⟩
theorem hp_hole_t2 {a b : Int} (h : Ft g zX5_hole [.ref 0, iv a, iv b] σ l 0) : Fn g zL_hole 1 6 [.ref 0, iv a, iv b, .ref 108] σ l (fun o ω l' => o = .inl (some (iv 2)) ∧ ω = σ ∧ l' = l) := by
  refine Rn.ofH [some (.ref 0), some (iv a), some (iv b), some (.ref 108), none] (by decide) (by decide) (Nat.le_of_ble_eq_true rfl) rfl ?_
  refine g_aload3 dL_hole_0 ?_
  refine g_iconst dL_hole_1 ?_
  refine g_aload0 dL_hole_2 ?_
  refine g_iload1 dL_hole_3 ?_
  refine g_iload2 dL_hole_4 ?_
  refine f_callVH (w := 2) (As := [iv a, iv b]) (e := 0) (hpc := 17) h rfl (by decide) rfl oY_X5_hole oI_X5_hole lk_L_15 rfl dL_hole_5 (by decide) (by decide) rfl ⟨[(0, 10, 13, 19)], (0, 10, 17, 13), [], rfl, rfl, rfl, by decide, cl_IAE, ct_IAE, fun z hz => by
        rcases List.mem_cons.mp hz with rfl | h9
        · exact ⟨rfl, by decide, cl_IOB⟩
        · cases h9⟩ (Or.inr ⟨4, dL_hole_17, by decide, rfl⟩) ?_
  refine g_iconst dL_hole_19 ?_
  refine g_iretI rfl dL_hole_20 ?_
  exact fn_ret ⟨rfl, rfl, rfl⟩
theorem oYX_L_covered : okYH zL_covered 4 := ⟨by decide, oYH_L_covered, (tt1 0 rfl rfl), ⟨by decide, by decide⟩, by decide +kernel⟩
theorem hp_covered_ok {a b V : Int} {k n : Nat} {R : sT → (Nat → Nat) → Prop} (hV : R32 V) (h : Fn g zX5_covered k n [.ref 0, iv a, iv b] σ l (fun o τ l' => o = .inl (some (iv V)) ∧ R τ l')) : Fn g zL_covered k n [.ref 0, iv a, iv b, .ref 108] σ l (fun o ω l' => o = .inl (some (iv 0)) ∧ ∃ τ, R τ l' ∧ ω = up τ 108 0 V) := by
  refine Rn.ofH [some (.ref 0), some (iv a), some (iv b), some (.ref 108), none] (by decide) (by decide) (Nat.le_of_ble_eq_true rfl) rfl ?_
  refine g_aload3 dL_covered_0 ?_
  refine g_iconst dL_covered_1 ?_
  refine g_aload0 dL_covered_2 ?_
  refine g_iload1 dL_covered_3 ?_
  refine g_iload2 dL_covered_4 ?_
  refine f_cV2q (h) rfl (by decide) rfl oY_X5_covered oI_X5_covered lk_L_21 rfl dL_covered_5 (Nat.le_refl _) (Nat.le_refl _) rfl (Or.inl rfl) (fun σ5 l5 h5 => ?_)
  refine g_i2l hV dL_covered_8 ?_
  refine f_last rfl (by decide) ⟨by omega, by show _ < ((1 : Nat) : Int); omega⟩ dL_covered_9 ?_
  refine g_goto (tgt := 17) dL_covered_10 rfl ?_
  refine g_iconst dL_covered_17 ?_
  refine g_iretI rfl dL_covered_18 ?_
  exact fn_ret ⟨rfl, σ5, h5, rfl⟩
theorem hp_covered_t1 {a b : Int} (h : Ft g zX5_covered [.ref 0, iv a, iv b] σ l 1) : Fn g zL_covered 1 6 [.ref 0, iv a, iv b, .ref 108] σ l (fun o ω l' => o = .inl (some (iv 1)) ∧ ω = σ ∧ l' = l) := by
  refine Rn.ofH [some (.ref 0), some (iv a), some (iv b), some (.ref 108), none] (by decide) (by decide) (Nat.le_of_ble_eq_true rfl) rfl ?_
  refine g_aload3 dL_covered_0 ?_
  refine g_iconst dL_covered_1 ?_
  refine g_aload0 dL_covered_2 ?_
  refine g_iload1 dL_covered_3 ?_
  refine g_iload2 dL_covered_4 ?_
  refine f_callVH (w := 2) (As := [iv a, iv b]) (e := 1) (hpc := 13) h rfl (by decide) rfl oY_X5_covered oI_X5_covered lk_L_21 rfl dL_covered_5 (by decide) (by decide) rfl ⟨[], (0, 10, 13, 19), [], rfl, rfl, rfl, by decide, cl_IOB, ct_IOB, fun z hz => by cases hz⟩ (Or.inr ⟨4, dL_covered_13, by decide, rfl⟩) ?_
  refine g_iconst dL_covered_15 ?_
  refine g_iretI rfl dL_covered_16 ?_
  exact fn_ret ⟨rfl, rfl, rfl⟩
theorem oYX_L_sounding : okYH zL_sounding 3 := ⟨by decide, oYH_L_sounding, (tt1 0 rfl rfl), ⟨by decide, by decide⟩, by decide +kernel⟩
theorem hp_sounding_ok {a V : Int} {k n : Nat} {R : sT → (Nat → Nat) → Prop} (hV : R32 V) (h : Fn g zX5_sounding k n [.ref 0, iv a] σ l (fun o τ l' => o = .inl (some (iv V)) ∧ R τ l')) : Fn g zL_sounding k n [.ref 0, iv a, .ref 108] σ l (fun o ω l' => o = .inl (some (iv 0)) ∧ ∃ τ, R τ l' ∧ ω = up τ 108 0 V) := by
  refine Rn.ofH [some (.ref 0), some (iv a), some (.ref 108), none] (by decide) (by decide) (Nat.le_of_ble_eq_true rfl) rfl ?_
  refine g_aload2 dL_sounding_0 ?_
  refine g_iconst dL_sounding_1 ?_
  refine g_aload0 dL_sounding_2 ?_
  refine g_iload1 dL_sounding_3 ?_
  refine f_cV1q (h) rfl (by decide) rfl oY_X5_sounding oI_X5_sounding lk_L_24 rfl dL_sounding_4 (Nat.le_refl _) (Nat.le_refl _) rfl (okFb_of rfl) (fun σ4 l4 h4 => ?_)
  refine g_i2l hV dL_sounding_7 ?_
  refine f_last rfl (by decide) ⟨by omega, by show _ < ((1 : Nat) : Int); omega⟩ dL_sounding_8 ?_
  refine g_goto (tgt := 15) dL_sounding_9 rfl ?_
  refine g_iconst dL_sounding_15 ?_
  refine g_iretI rfl dL_sounding_16 ?_
  exact fn_ret ⟨rfl, σ4, h4, rfl⟩
theorem hp_sounding_t1 {a : Int} (h : Ft g zX5_sounding [.ref 0, iv a] σ l 1) : Fn g zL_sounding 1 6 [.ref 0, iv a, .ref 108] σ l (fun o ω l' => o = .inl (some (iv 1)) ∧ ω = σ ∧ l' = l) := by
  refine Rn.ofH [some (.ref 0), some (iv a), some (.ref 108), none] (by decide) (by decide) (Nat.le_of_ble_eq_true rfl) rfl ?_
  refine g_aload2 dL_sounding_0 ?_
  refine g_iconst dL_sounding_1 ?_
  refine g_aload0 dL_sounding_2 ?_
  refine g_iload1 dL_sounding_3 ?_
  refine f_callVH (w := 1) (As := [iv a]) (e := 1) (hpc := 12) h rfl (by decide) rfl oY_X5_sounding oI_X5_sounding lk_L_24 rfl dL_sounding_4 (by decide) (by decide) rfl ⟨[], (0, 9, 12, 19), [], rfl, rfl, rfl, by decide, cl_IOB, ct_IOB, fun z hz => by cases hz⟩ (Or.inl ⟨3, dL_sounding_12, by decide, rfl⟩) ?_
  refine g_iconst dL_sounding_13 ?_
  refine g_iretI rfl dL_sounding_14 ?_
  exact fn_ret ⟨rfl, rfl, rfl⟩
theorem oYX_L_cents : okYH zL_cents 3 := ⟨by decide, oYH_L_cents, (tt1 0 rfl rfl), ⟨by decide, by decide⟩, by decide +kernel⟩
theorem hp_cents_ok {a V : Int} {k n : Nat} {R : sT → (Nat → Nat) → Prop} (hV : R32 V) (h : Fn g zX5_cents k n [.ref 0, iv a] σ l (fun o τ l' => o = .inl (some (iv V)) ∧ R τ l')) : Fn g zL_cents k n [.ref 0, iv a, .ref 108] σ l (fun o ω l' => o = .inl (some (iv 0)) ∧ ∃ τ, R τ l' ∧ ω = up τ 108 0 V) := by
  refine Rn.ofH [some (.ref 0), some (iv a), some (.ref 108), none] (by decide) (by decide) (Nat.le_of_ble_eq_true rfl) rfl ?_
  refine g_aload2 dL_cents_0 ?_
  refine g_iconst dL_cents_1 ?_
  refine g_aload0 dL_cents_2 ?_
  refine g_iload1 dL_cents_3 ?_
  refine f_cV1q (h) rfl (by decide) rfl oY_X5_cents oI_X5_cents lk_L_27 rfl dL_cents_4 (Nat.le_refl _) (Nat.le_refl _) rfl (okFb_of rfl) (fun σ4 l4 h4 => ?_)
  refine g_i2l hV dL_cents_7 ?_
  refine f_last rfl (by decide) ⟨by omega, by show _ < ((1 : Nat) : Int); omega⟩ dL_cents_8 ?_
  refine g_goto (tgt := 15) dL_cents_9 rfl ?_
  refine g_iconst dL_cents_15 ?_
  refine g_iretI rfl dL_cents_16 ?_
  exact fn_ret ⟨rfl, σ4, h4, rfl⟩
theorem hp_cents_t1 {a : Int} (h : Ft g zX5_cents [.ref 0, iv a] σ l 1) : Fn g zL_cents 1 6 [.ref 0, iv a, .ref 108] σ l (fun o ω l' => o = .inl (some (iv 1)) ∧ ω = σ ∧ l' = l) := by
  refine Rn.ofH [some (.ref 0), some (iv a), some (.ref 108), none] (by decide) (by decide) (Nat.le_of_ble_eq_true rfl) rfl ?_
  refine g_aload2 dL_cents_0 ?_
  refine g_iconst dL_cents_1 ?_
  refine g_aload0 dL_cents_2 ?_
  refine g_iload1 dL_cents_3 ?_
  refine f_callVH (w := 1) (As := [iv a]) (e := 1) (hpc := 12) h rfl (by decide) rfl oY_X5_cents oI_X5_cents lk_L_27 rfl dL_cents_4 (by decide) (by decide) rfl ⟨[], (0, 9, 12, 19), [], rfl, rfl, rfl, by decide, cl_IOB, ct_IOB, fun z hz => by cases hz⟩ (Or.inl ⟨3, dL_cents_12, by decide, rfl⟩) ?_
  refine g_iconst dL_cents_13 ?_
  refine g_iretI rfl dL_cents_14 ?_
  exact fn_ret ⟨rfl, rfl, rfl⟩
theorem oYX_L_tone : okYH zL_tone 3 := ⟨by decide, oYH_L_tone, (tt1 0 rfl rfl), ⟨by decide, by decide⟩, by decide +kernel⟩
theorem hp_tone_ok {a V : Int} {k n : Nat} {R : sT → (Nat → Nat) → Prop} (hV : R32 V) (h : Fn g zX5_tone k n [.ref 0, iv a] σ l (fun o τ l' => o = .inl (some (iv V)) ∧ R τ l')) : Fn g zL_tone k n [.ref 0, iv a, .ref 108] σ l (fun o ω l' => o = .inl (some (iv 0)) ∧ ∃ τ, R τ l' ∧ ω = up τ 108 0 V) := by
  refine Rn.ofH [some (.ref 0), some (iv a), some (.ref 108), none] (by decide) (by decide) (Nat.le_of_ble_eq_true rfl) rfl ?_
  refine g_aload2 dL_tone_0 ?_
  refine g_iconst dL_tone_1 ?_
  refine g_aload0 dL_tone_2 ?_
  refine g_iload1 dL_tone_3 ?_
  refine f_cV1q (h) rfl (by decide) rfl oY_X5_tone oI_X5_tone lk_L_30 rfl dL_tone_4 (Nat.le_refl _) (Nat.le_refl _) rfl (okFb_of rfl) (fun σ4 l4 h4 => ?_)
  refine g_i2l hV dL_tone_7 ?_
  refine f_last rfl (by decide) ⟨by omega, by show _ < ((1 : Nat) : Int); omega⟩ dL_tone_8 ?_
  refine g_goto (tgt := 15) dL_tone_9 rfl ?_
  refine g_iconst dL_tone_15 ?_
  refine g_iretI rfl dL_tone_16 ?_
  exact fn_ret ⟨rfl, σ4, h4, rfl⟩
theorem hp_tone_t1 {a : Int} (h : Ft g zX5_tone [.ref 0, iv a] σ l 1) : Fn g zL_tone 1 6 [.ref 0, iv a, .ref 108] σ l (fun o ω l' => o = .inl (some (iv 1)) ∧ ω = σ ∧ l' = l) := by
  refine Rn.ofH [some (.ref 0), some (iv a), some (.ref 108), none] (by decide) (by decide) (Nat.le_of_ble_eq_true rfl) rfl ?_
  refine g_aload2 dL_tone_0 ?_
  refine g_iconst dL_tone_1 ?_
  refine g_aload0 dL_tone_2 ?_
  refine g_iload1 dL_tone_3 ?_
  refine f_callVH (w := 1) (As := [iv a]) (e := 1) (hpc := 12) h rfl (by decide) rfl oY_X5_tone oI_X5_tone lk_L_30 rfl dL_tone_4 (by decide) (by decide) rfl ⟨[], (0, 9, 12, 19), [], rfl, rfl, rfl, by decide, cl_IOB, ct_IOB, fun z hz => by cases hz⟩ (Or.inl ⟨3, dL_tone_12, by decide, rfl⟩) ?_
  refine g_iconst dL_tone_13 ?_
  refine g_iretI rfl dL_tone_14 ?_
  exact fn_ret ⟨rfl, rfl, rfl⟩
theorem oYX_L_off : okYH zL_off 3 := ⟨by decide, oYH_L_off, (tt1 0 rfl rfl), ⟨by decide, by decide⟩, by decide +kernel⟩
theorem hp_off_ok {a V : Int} {k n : Nat} {R : sT → (Nat → Nat) → Prop} (hV : R32 V) (h : Fn g zX5_off k n [.ref 0, iv a] σ l (fun o τ l' => o = .inl (some (iv V)) ∧ R τ l')) : Fn g zL_off k n [.ref 0, iv a, .ref 108] σ l (fun o ω l' => o = .inl (some (iv 0)) ∧ ∃ τ, R τ l' ∧ ω = up τ 108 0 V) := by
  refine Rn.ofH [some (.ref 0), some (iv a), some (.ref 108), none] (by decide) (by decide) (Nat.le_of_ble_eq_true rfl) rfl ?_
  refine g_aload2 dL_off_0 ?_
  refine g_iconst dL_off_1 ?_
  refine g_aload0 dL_off_2 ?_
  refine g_iload1 dL_off_3 ?_
  refine f_cV1q (h) rfl (by decide) rfl oY_X5_off oI_X5_off lk_L_33 rfl dL_off_4 (Nat.le_refl _) (Nat.le_refl _) rfl (okFb_of rfl) (fun σ4 l4 h4 => ?_)
  refine g_i2l hV dL_off_7 ?_
  refine f_last rfl (by decide) ⟨by omega, by show _ < ((1 : Nat) : Int); omega⟩ dL_off_8 ?_
  refine g_goto (tgt := 15) dL_off_9 rfl ?_
  refine g_iconst dL_off_15 ?_
  refine g_iretI rfl dL_off_16 ?_
  exact fn_ret ⟨rfl, σ4, h4, rfl⟩
theorem hp_off_t1 {a : Int} (h : Ft g zX5_off [.ref 0, iv a] σ l 1) : Fn g zL_off 1 6 [.ref 0, iv a, .ref 108] σ l (fun o ω l' => o = .inl (some (iv 1)) ∧ ω = σ ∧ l' = l) := by
  refine Rn.ofH [some (.ref 0), some (iv a), some (.ref 108), none] (by decide) (by decide) (Nat.le_of_ble_eq_true rfl) rfl ?_
  refine g_aload2 dL_off_0 ?_
  refine g_iconst dL_off_1 ?_
  refine g_aload0 dL_off_2 ?_
  refine g_iload1 dL_off_3 ?_
  refine f_callVH (w := 1) (As := [iv a]) (e := 1) (hpc := 12) h rfl (by decide) rfl oY_X5_off oI_X5_off lk_L_33 rfl dL_off_4 (by decide) (by decide) rfl ⟨[], (0, 9, 12, 19), [], rfl, rfl, rfl, by decide, cl_IOB, ct_IOB, fun z hz => by cases hz⟩ (Or.inl ⟨3, dL_off_12, by decide, rfl⟩) ?_
  refine g_iconst dL_off_13 ?_
  refine g_iretI rfl dL_off_14 ?_
  exact fn_ret ⟨rfl, rfl, rfl⟩
theorem oYX_L_halves : okYH zL_halves 3 := ⟨by decide, oYH_L_halves, (tt1 0 rfl rfl), ⟨by decide, by decide⟩, by decide +kernel⟩
theorem hp_halves_ok {a V : Int} {k n : Nat} {R : sT → (Nat → Nat) → Prop} (hV : R32 V) (h : Fn g zX5_halves k n [.ref 0, iv a] σ l (fun o τ l' => o = .inl (some (iv V)) ∧ R τ l')) : Fn g zL_halves k n [.ref 0, iv a, .ref 108] σ l (fun o ω l' => o = .inl (some (iv 0)) ∧ ∃ τ, R τ l' ∧ ω = up τ 108 0 V) := by
  refine Rn.ofH [some (.ref 0), some (iv a), some (.ref 108), none] (by decide) (by decide) (Nat.le_of_ble_eq_true rfl) rfl ?_
  refine g_aload2 dL_halves_0 ?_
  refine g_iconst dL_halves_1 ?_
  refine g_aload0 dL_halves_2 ?_
  refine g_iload1 dL_halves_3 ?_
  refine f_cV1q (h) rfl (by decide) rfl oY_X5_halves oI_X5_halves lk_L_36 rfl dL_halves_4 (Nat.le_refl _) (Nat.le_refl _) rfl (okFb_of rfl) (fun σ4 l4 h4 => ?_)
  refine g_i2l hV dL_halves_7 ?_
  refine f_last rfl (by decide) ⟨by omega, by show _ < ((1 : Nat) : Int); omega⟩ dL_halves_8 ?_
  refine g_goto (tgt := 15) dL_halves_9 rfl ?_
  refine g_iconst dL_halves_15 ?_
  refine g_iretI rfl dL_halves_16 ?_
  exact fn_ret ⟨rfl, σ4, h4, rfl⟩
theorem hp_halves_t1 {a : Int} (h : Ft g zX5_halves [.ref 0, iv a] σ l 1) : Fn g zL_halves 1 6 [.ref 0, iv a, .ref 108] σ l (fun o ω l' => o = .inl (some (iv 1)) ∧ ω = σ ∧ l' = l) := by
  refine Rn.ofH [some (.ref 0), some (iv a), some (.ref 108), none] (by decide) (by decide) (Nat.le_of_ble_eq_true rfl) rfl ?_
  refine g_aload2 dL_halves_0 ?_
  refine g_iconst dL_halves_1 ?_
  refine g_aload0 dL_halves_2 ?_
  refine g_iload1 dL_halves_3 ?_
  refine f_callVH (w := 1) (As := [iv a]) (e := 1) (hpc := 12) h rfl (by decide) rfl oY_X5_halves oI_X5_halves lk_L_36 rfl dL_halves_4 (by decide) (by decide) rfl ⟨[], (0, 9, 12, 19), [], rfl, rfl, rfl, by decide, cl_IOB, ct_IOB, fun z hz => by cases hz⟩ (Or.inl ⟨3, dL_halves_12, by decide, rfl⟩) ?_
  refine g_iconst dL_halves_13 ?_
  refine g_iretI rfl dL_halves_14 ?_
  exact fn_ret ⟨rfl, rfl, rfl⟩
theorem oYX_L_crosses : okYH zL_crosses 3 := ⟨by decide, oYH_L_crosses, (tt1 0 rfl rfl), ⟨by decide, by decide⟩, by decide +kernel⟩
theorem hp_crosses_ok {a V : Int} {k n : Nat} {R : sT → (Nat → Nat) → Prop} (hV : R32 V) (h : Fn g zX5_crosses k n [.ref 0, iv a] σ l (fun o τ l' => o = .inl (some (iv V)) ∧ R τ l')) : Fn g zL_crosses k n [.ref 0, iv a, .ref 108] σ l (fun o ω l' => o = .inl (some (iv 0)) ∧ ∃ τ, R τ l' ∧ ω = up τ 108 0 V) := by
  refine Rn.ofH [some (.ref 0), some (iv a), some (.ref 108), none] (by decide) (by decide) (Nat.le_of_ble_eq_true rfl) rfl ?_
  refine g_aload2 dL_crosses_0 ?_
  refine g_iconst dL_crosses_1 ?_
  refine g_aload0 dL_crosses_2 ?_
  refine g_iload1 dL_crosses_3 ?_
  refine f_cV1q (h) rfl (by decide) rfl oY_X5_crosses oI_X5_crosses lk_L_39 rfl dL_crosses_4 (Nat.le_refl _) (Nat.le_refl _) rfl (okFb_of rfl) (fun σ4 l4 h4 => ?_)
  refine g_i2l hV dL_crosses_7 ?_
  refine f_last rfl (by decide) ⟨by omega, by show _ < ((1 : Nat) : Int); omega⟩ dL_crosses_8 ?_
  refine g_goto (tgt := 15) dL_crosses_9 rfl ?_
  refine g_iconst dL_crosses_15 ?_
  refine g_iretI rfl dL_crosses_16 ?_
  exact fn_ret ⟨rfl, σ4, h4, rfl⟩
theorem hp_crosses_t1 {a : Int} (h : Ft g zX5_crosses [.ref 0, iv a] σ l 1) : Fn g zL_crosses 1 6 [.ref 0, iv a, .ref 108] σ l (fun o ω l' => o = .inl (some (iv 1)) ∧ ω = σ ∧ l' = l) := by
  refine Rn.ofH [some (.ref 0), some (iv a), some (.ref 108), none] (by decide) (by decide) (Nat.le_of_ble_eq_true rfl) rfl ?_
  refine g_aload2 dL_crosses_0 ?_
  refine g_iconst dL_crosses_1 ?_
  refine g_aload0 dL_crosses_2 ?_
  refine g_iload1 dL_crosses_3 ?_
  refine f_callVH (w := 1) (As := [iv a]) (e := 1) (hpc := 12) h rfl (by decide) rfl oY_X5_crosses oI_X5_crosses lk_L_39 rfl dL_crosses_4 (by decide) (by decide) rfl ⟨[], (0, 9, 12, 19), [], rfl, rfl, rfl, by decide, cl_IOB, ct_IOB, fun z hz => by cases hz⟩ (Or.inl ⟨3, dL_crosses_12, by decide, rfl⟩) ?_
  refine g_iconst dL_crosses_13 ?_
  refine g_iretI rfl dL_crosses_14 ?_
  exact fn_ret ⟨rfl, rfl, rfl⟩
theorem oYX_L_isEasy : okYH zL_isEasy 3 := ⟨by decide, oYH_L_isEasy, (tt1 0 rfl rfl), ⟨by decide, by decide⟩, by decide +kernel⟩
theorem hp_isEasy_ok {a V : Int} {k n : Nat} {R : sT → (Nat → Nat) → Prop} (hV : V = 0 ∨ V = 1) (h : Fn g zX5_isEasy k n [.ref 0, iv a] σ l (fun o τ l' => o = .inl (some (iv V)) ∧ R τ l')) : Fn g zL_isEasy k n [.ref 0, iv a, .ref 108] σ l (fun o ω l' => o = .inl (some (iv 0)) ∧ ∃ τ, R τ l' ∧ ω = up τ 108 0 V) := by
  refine Rn.ofH [some (.ref 0), some (iv a), some (.ref 108), none] (by decide) (by decide) (Nat.le_of_ble_eq_true rfl) rfl ?_
  rcases hV with rfl | rfl
  · refine g_aload2 dL_isEasy_0 ?_
    refine g_iconst dL_isEasy_1 ?_
    refine g_aload0 dL_isEasy_2 ?_
    refine g_iload1 dL_isEasy_3 ?_
    refine f_cV1q (h) rfl (by decide) rfl oY_X5_isEasy oI_X5_isEasy lk_L_42 rfl dL_isEasy_4 (Nat.le_refl _) (Nat.le_refl _) rfl (okFb_of rfl) (fun σ4 l4 h4 => ?_)
    refine g_if_eq ⟨by decide, by decide⟩ (tgt := 14) dL_isEasy_7 rfl (fun h7 => ?_) (fun h7 => absurd h7 (by decide))
    refine g_lconst0 dL_isEasy_14 ?_
    refine f_last rfl (by decide) ⟨by omega, by show _ < ((1 : Nat) : Int); omega⟩ dL_isEasy_15 ?_
    refine g_goto (tgt := 22) dL_isEasy_16 rfl ?_
    refine g_iconst dL_isEasy_22 ?_
    refine g_iretI rfl dL_isEasy_23 ?_
    exact fn_ret ⟨rfl, σ4, h4, rfl⟩
  · refine g_aload2 dL_isEasy_0 ?_
    refine g_iconst dL_isEasy_1 ?_
    refine g_aload0 dL_isEasy_2 ?_
    refine g_iload1 dL_isEasy_3 ?_
    refine f_cV1q (h) rfl (by decide) rfl oY_X5_isEasy oI_X5_isEasy lk_L_42 rfl dL_isEasy_4 (Nat.le_refl _) (Nat.le_refl _) rfl (okFb_of rfl) (fun σ4 l4 h4 => ?_)
    refine g_if_eq ⟨by decide, by decide⟩ (tgt := 14) dL_isEasy_7 rfl (fun h7 => absurd h7 (by decide)) (fun h7 => ?_)
    refine g_lconst1 dL_isEasy_10 ?_
    refine g_goto (tgt := 15) dL_isEasy_11 rfl ?_
    refine f_last rfl (by decide) ⟨by omega, by show _ < ((1 : Nat) : Int); omega⟩ dL_isEasy_15 ?_
    refine g_goto (tgt := 22) dL_isEasy_16 rfl ?_
    refine g_iconst dL_isEasy_22 ?_
    refine g_iretI rfl dL_isEasy_23 ?_
    exact fn_ret ⟨rfl, σ4, h4, rfl⟩
theorem hp_isEasy_t1 {a : Int} (h : Ft g zX5_isEasy [.ref 0, iv a] σ l 1) : Fn g zL_isEasy 1 6 [.ref 0, iv a, .ref 108] σ l (fun o ω l' => o = .inl (some (iv 1)) ∧ ω = σ ∧ l' = l) := by
  refine Rn.ofH [some (.ref 0), some (iv a), some (.ref 108), none] (by decide) (by decide) (Nat.le_of_ble_eq_true rfl) rfl ?_
  refine g_aload2 dL_isEasy_0 ?_
  refine g_iconst dL_isEasy_1 ?_
  refine g_aload0 dL_isEasy_2 ?_
  refine g_iload1 dL_isEasy_3 ?_
  refine f_callVH (w := 1) (As := [iv a]) (e := 1) (hpc := 19) h rfl (by decide) rfl oY_X5_isEasy oI_X5_isEasy lk_L_42 rfl dL_isEasy_4 (by decide) (by decide) rfl ⟨[], (0, 16, 19, 19), [], rfl, rfl, rfl, by decide, cl_IOB, ct_IOB, fun z hz => by cases hz⟩ (Or.inl ⟨3, dL_isEasy_19, by decide, rfl⟩) ?_
  refine g_iconst dL_isEasy_20 ?_
  refine g_iretI rfl dL_isEasy_21 ?_
  exact fn_ret ⟨rfl, rfl, rfl⟩
theorem oYX_L_plays : okYH zL_plays 3 := ⟨by decide, oYH_L_plays, (tt1 0 rfl rfl), ⟨by decide, by decide⟩, by decide +kernel⟩
theorem hp_plays_ok {a V : Int} {k n : Nat} {R : sT → (Nat → Nat) → Prop} (hV : R32 V) (h : Fn g zX5_plays k n [.ref 0, iv a] σ l (fun o τ l' => o = .inl (some (iv V)) ∧ R τ l')) : Fn g zL_plays k n [.ref 0, iv a, .ref 108] σ l (fun o ω l' => o = .inl (some (iv 0)) ∧ ∃ τ, R τ l' ∧ ω = up τ 108 0 V) := by
  refine Rn.ofH [some (.ref 0), some (iv a), some (.ref 108), none] (by decide) (by decide) (Nat.le_of_ble_eq_true rfl) rfl ?_
  refine g_aload2 dL_plays_0 ?_
  refine g_iconst dL_plays_1 ?_
  refine g_aload0 dL_plays_2 ?_
  refine g_iload1 dL_plays_3 ?_
  refine f_cV1q (h) rfl (by decide) rfl oY_X5_plays oI_X5_plays lk_L_46 rfl dL_plays_4 (Nat.le_refl _) (Nat.le_refl _) rfl (okFb_of rfl) (fun σ4 l4 h4 => ?_)
  refine g_i2l hV dL_plays_7 ?_
  refine f_last rfl (by decide) ⟨by omega, by show _ < ((1 : Nat) : Int); omega⟩ dL_plays_8 ?_
  refine g_goto (tgt := 15) dL_plays_9 rfl ?_
  refine g_iconst dL_plays_15 ?_
  refine g_iretI rfl dL_plays_16 ?_
  exact fn_ret ⟨rfl, σ4, h4, rfl⟩
theorem hp_plays_t1 {a : Int} (h : Ft g zX5_plays [.ref 0, iv a] σ l 0) : Fn g zL_plays 1 6 [.ref 0, iv a, .ref 108] σ l (fun o ω l' => o = .inl (some (iv 1)) ∧ ω = σ ∧ l' = l) := by
  refine Rn.ofH [some (.ref 0), some (iv a), some (.ref 108), none] (by decide) (by decide) (Nat.le_of_ble_eq_true rfl) rfl ?_
  refine g_aload2 dL_plays_0 ?_
  refine g_iconst dL_plays_1 ?_
  refine g_aload0 dL_plays_2 ?_
  refine g_iload1 dL_plays_3 ?_
  refine f_callVH (w := 1) (As := [iv a]) (e := 0) (hpc := 12) h rfl (by decide) rfl oY_X5_plays oI_X5_plays lk_L_46 rfl dL_plays_4 (by decide) (by decide) rfl ⟨[], (0, 9, 12, 13), [], rfl, rfl, rfl, by decide, cl_IAE, ct_IAE, fun z hz => by cases hz⟩ (Or.inl ⟨3, dL_plays_12, by decide, rfl⟩) ?_
  refine g_iconst dL_plays_13 ?_
  refine g_iretI rfl dL_plays_14 ?_
  exact fn_ret ⟨rfl, rfl, rfl⟩
theorem oYX_L_playOf : okYH zL_playOf 4 := ⟨by decide, oYH_L_playOf, (tt1 0 rfl rfl), ⟨by decide, by decide⟩, by decide +kernel⟩
theorem hp_playOf_ok {a b V : Int} {k n : Nat} {R : sT → (Nat → Nat) → Prop} (hV : R32 V) (h : Fn g zX5_playOf k n [.ref 0, iv a, iv b] σ l (fun o τ l' => o = .inl (some (iv V)) ∧ R τ l')) : Fn g zL_playOf k n [.ref 0, iv a, iv b, .ref 108] σ l (fun o ω l' => o = .inl (some (iv 0)) ∧ ∃ τ, R τ l' ∧ ω = up τ 108 0 V) := by
  refine Rn.ofH [some (.ref 0), some (iv a), some (iv b), some (.ref 108), none] (by decide) (by decide) (Nat.le_of_ble_eq_true rfl) rfl ?_
  refine g_aload3 dL_playOf_0 ?_
  refine g_iconst dL_playOf_1 ?_
  refine g_aload0 dL_playOf_2 ?_
  refine g_iload1 dL_playOf_3 ?_
  refine g_iload2 dL_playOf_4 ?_
  refine f_cV2q (h) rfl (by decide) rfl oY_X5_playOf oI_X5_playOf lk_L_49 rfl dL_playOf_5 (Nat.le_refl _) (Nat.le_refl _) rfl (okFb_of rfl) (fun σ5 l5 h5 => ?_)
  refine g_i2l hV dL_playOf_8 ?_
  refine f_last rfl (by decide) ⟨by omega, by show _ < ((1 : Nat) : Int); omega⟩ dL_playOf_9 ?_
  refine g_goto (tgt := 17) dL_playOf_10 rfl ?_
  refine g_iconst dL_playOf_17 ?_
  refine g_iretI rfl dL_playOf_18 ?_
  exact fn_ret ⟨rfl, σ5, h5, rfl⟩
theorem hp_playOf_t1 {a b : Int} (h : Ft g zX5_playOf [.ref 0, iv a, iv b] σ l 0) : Fn g zL_playOf 1 6 [.ref 0, iv a, iv b, .ref 108] σ l (fun o ω l' => o = .inl (some (iv 1)) ∧ ω = σ ∧ l' = l) := by
  refine Rn.ofH [some (.ref 0), some (iv a), some (iv b), some (.ref 108), none] (by decide) (by decide) (Nat.le_of_ble_eq_true rfl) rfl ?_
  refine g_aload3 dL_playOf_0 ?_
  refine g_iconst dL_playOf_1 ?_
  refine g_aload0 dL_playOf_2 ?_
  refine g_iload1 dL_playOf_3 ?_
  refine g_iload2 dL_playOf_4 ?_
  refine f_callVH (w := 2) (As := [iv a, iv b]) (e := 0) (hpc := 13) h rfl (by decide) rfl oY_X5_playOf oI_X5_playOf lk_L_49 rfl dL_playOf_5 (by decide) (by decide) rfl ⟨[], (0, 10, 13, 13), [], rfl, rfl, rfl, by decide, cl_IAE, ct_IAE, fun z hz => by cases hz⟩ (Or.inr ⟨4, dL_playOf_13, by decide, rfl⟩) ?_
  refine g_iconst dL_playOf_15 ?_
  refine g_iretI rfl dL_playOf_16 ?_
  exact fn_ret ⟨rfl, rfl, rfl⟩
theorem oYX_L_truest : okYH zL_truest 3 := ⟨by decide, oYH_L_truest, (tt1 0 rfl rfl), ⟨by decide, by decide⟩, by decide +kernel⟩
theorem hp_truest_ok {a V : Int} {k n : Nat} {R : sT → (Nat → Nat) → Prop} (hV : R32 V) (h : Fn g zX5_truest k n [.ref 0, iv a] σ l (fun o τ l' => o = .inl (some (iv V)) ∧ R τ l')) : Fn g zL_truest k n [.ref 0, iv a, .ref 108] σ l (fun o ω l' => o = .inl (some (iv 0)) ∧ ∃ τ, R τ l' ∧ ω = up τ 108 0 V) := by
  refine Rn.ofH [some (.ref 0), some (iv a), some (.ref 108), none] (by decide) (by decide) (Nat.le_of_ble_eq_true rfl) rfl ?_
  refine g_aload2 dL_truest_0 ?_
  refine g_iconst dL_truest_1 ?_
  refine g_aload0 dL_truest_2 ?_
  refine g_iload1 dL_truest_3 ?_
  refine f_cV1q (h) rfl (by decide) rfl oY_X5_truest oI_X5_truest lk_L_52 rfl dL_truest_4 (Nat.le_refl _) (Nat.le_refl _) rfl (okFb_of rfl) (fun σ4 l4 h4 => ?_)
  refine g_i2l hV dL_truest_7 ?_
  refine f_last rfl (by decide) ⟨by omega, by show _ < ((1 : Nat) : Int); omega⟩ dL_truest_8 ?_
  refine g_goto (tgt := 15) dL_truest_9 rfl ?_
  refine g_iconst dL_truest_15 ?_
  refine g_iretI rfl dL_truest_16 ?_
  exact fn_ret ⟨rfl, σ4, h4, rfl⟩
theorem hp_truest_t1 {a : Int} (h : Ft g zX5_truest [.ref 0, iv a] σ l 0) : Fn g zL_truest 1 6 [.ref 0, iv a, .ref 108] σ l (fun o ω l' => o = .inl (some (iv 1)) ∧ ω = σ ∧ l' = l) := by
  refine Rn.ofH [some (.ref 0), some (iv a), some (.ref 108), none] (by decide) (by decide) (Nat.le_of_ble_eq_true rfl) rfl ?_
  refine g_aload2 dL_truest_0 ?_
  refine g_iconst dL_truest_1 ?_
  refine g_aload0 dL_truest_2 ?_
  refine g_iload1 dL_truest_3 ?_
  refine f_callVH (w := 1) (As := [iv a]) (e := 0) (hpc := 12) h rfl (by decide) rfl oY_X5_truest oI_X5_truest lk_L_52 rfl dL_truest_4 (by decide) (by decide) rfl ⟨[], (0, 9, 12, 13), [], rfl, rfl, rfl, by decide, cl_IAE, ct_IAE, fun z hz => by cases hz⟩ (Or.inl ⟨3, dL_truest_12, by decide, rfl⟩) ?_
  refine g_iconst dL_truest_13 ?_
  refine g_iretI rfl dL_truest_14 ?_
  exact fn_ret ⟨rfl, rfl, rfl⟩
theorem oYX_L_change : okYH zL_change 4 := ⟨by decide, oYH_L_change, (tt1 0 rfl rfl), ⟨by decide, by decide⟩, by decide +kernel⟩
theorem hp_change_ok {a b V : Int} {k n : Nat} {R : sT → (Nat → Nat) → Prop} (hV : R32 V) (h : Fn g zX5_change k n [.ref 0, iv a, iv b] σ l (fun o τ l' => o = .inl (some (iv V)) ∧ R τ l')) : Fn g zL_change k n [.ref 0, iv a, iv b, .ref 108] σ l (fun o ω l' => o = .inl (some (iv 0)) ∧ ∃ τ, R τ l' ∧ ω = up τ 108 0 V) := by
  refine Rn.ofH [some (.ref 0), some (iv a), some (iv b), some (.ref 108), none] (by decide) (by decide) (Nat.le_of_ble_eq_true rfl) rfl ?_
  refine g_aload3 dL_change_0 ?_
  refine g_iconst dL_change_1 ?_
  refine g_aload0 dL_change_2 ?_
  refine g_iload1 dL_change_3 ?_
  refine g_iload2 dL_change_4 ?_
  refine f_cV2q (h) rfl (by decide) rfl oY_X5_change oI_X5_change lk_L_55 rfl dL_change_5 (Nat.le_refl _) (Nat.le_refl _) rfl (okFb_of rfl) (fun σ5 l5 h5 => ?_)
  refine g_i2l hV dL_change_8 ?_
  refine f_last rfl (by decide) ⟨by omega, by show _ < ((1 : Nat) : Int); omega⟩ dL_change_9 ?_
  refine g_goto (tgt := 17) dL_change_10 rfl ?_
  refine g_iconst dL_change_17 ?_
  refine g_iretI rfl dL_change_18 ?_
  exact fn_ret ⟨rfl, σ5, h5, rfl⟩
theorem hp_change_t1 {a b : Int} (h : Ft g zX5_change [.ref 0, iv a, iv b] σ l 1) : Fn g zL_change 1 6 [.ref 0, iv a, iv b, .ref 108] σ l (fun o ω l' => o = .inl (some (iv 1)) ∧ ω = σ ∧ l' = l) := by
  refine Rn.ofH [some (.ref 0), some (iv a), some (iv b), some (.ref 108), none] (by decide) (by decide) (Nat.le_of_ble_eq_true rfl) rfl ?_
  refine g_aload3 dL_change_0 ?_
  refine g_iconst dL_change_1 ?_
  refine g_aload0 dL_change_2 ?_
  refine g_iload1 dL_change_3 ?_
  refine g_iload2 dL_change_4 ?_
  refine f_callVH (w := 2) (As := [iv a, iv b]) (e := 1) (hpc := 13) h rfl (by decide) rfl oY_X5_change oI_X5_change lk_L_55 rfl dL_change_5 (by decide) (by decide) rfl ⟨[], (0, 10, 13, 19), [], rfl, rfl, rfl, by decide, cl_IOB, ct_IOB, fun z hz => by cases hz⟩ (Or.inr ⟨4, dL_change_13, by decide, rfl⟩) ?_
  refine g_iconst dL_change_15 ?_
  refine g_iretI rfl dL_change_16 ?_
  exact fn_ret ⟨rfl, rfl, rfl⟩
theorem oYX_L_fingers : okYH zL_fingers 4 := ⟨by decide, oYH_L_fingers, (tt1 0 rfl rfl), ⟨by decide, by decide⟩, by decide +kernel⟩
theorem hp_fingers_ok {a b V : Int} {k n : Nat} {R : sT → (Nat → Nat) → Prop} (hV : R32 V) (h : Fn g zX5_fingers k n [.ref 0, iv a, iv b] σ l (fun o τ l' => o = .inl (some (iv V)) ∧ R τ l')) : Fn g zL_fingers k n [.ref 0, iv a, iv b, .ref 108] σ l (fun o ω l' => o = .inl (some (iv 0)) ∧ ∃ τ, R τ l' ∧ ω = up τ 108 0 V) := by
  refine Rn.ofH [some (.ref 0), some (iv a), some (iv b), some (.ref 108), none] (by decide) (by decide) (Nat.le_of_ble_eq_true rfl) rfl ?_
  refine g_aload3 dL_fingers_0 ?_
  refine g_iconst dL_fingers_1 ?_
  refine g_aload0 dL_fingers_2 ?_
  refine g_iload1 dL_fingers_3 ?_
  refine g_iload2 dL_fingers_4 ?_
  refine f_cV2q (h) rfl (by decide) rfl oY_X5_fingers oI_X5_fingers lk_L_58 rfl dL_fingers_5 (Nat.le_refl _) (Nat.le_refl _) rfl (okFb_of rfl) (fun σ5 l5 h5 => ?_)
  refine g_i2l hV dL_fingers_8 ?_
  refine f_last rfl (by decide) ⟨by omega, by show _ < ((1 : Nat) : Int); omega⟩ dL_fingers_9 ?_
  refine g_goto (tgt := 17) dL_fingers_10 rfl ?_
  refine g_iconst dL_fingers_17 ?_
  refine g_iretI rfl dL_fingers_18 ?_
  exact fn_ret ⟨rfl, σ5, h5, rfl⟩
theorem hp_fingers_t1 {a b : Int} (h : Ft g zX5_fingers [.ref 0, iv a, iv b] σ l 1) : Fn g zL_fingers 1 6 [.ref 0, iv a, iv b, .ref 108] σ l (fun o ω l' => o = .inl (some (iv 1)) ∧ ω = σ ∧ l' = l) := by
  refine Rn.ofH [some (.ref 0), some (iv a), some (iv b), some (.ref 108), none] (by decide) (by decide) (Nat.le_of_ble_eq_true rfl) rfl ?_
  refine g_aload3 dL_fingers_0 ?_
  refine g_iconst dL_fingers_1 ?_
  refine g_aload0 dL_fingers_2 ?_
  refine g_iload1 dL_fingers_3 ?_
  refine g_iload2 dL_fingers_4 ?_
  refine f_callVH (w := 2) (As := [iv a, iv b]) (e := 1) (hpc := 13) h rfl (by decide) rfl oY_X5_fingers oI_X5_fingers lk_L_58 rfl dL_fingers_5 (by decide) (by decide) rfl ⟨[], (0, 10, 13, 19), [], rfl, rfl, rfl, by decide, cl_IOB, ct_IOB, fun z hz => by cases hz⟩ (Or.inr ⟨4, dL_fingers_13, by decide, rfl⟩) ?_
  refine g_iconst dL_fingers_15 ?_
  refine g_iretI rfl dL_fingers_16 ?_
  exact fn_ret ⟨rfl, rfl, rfl⟩
theorem oYX_L_nearest : okYH zL_nearest 3 := ⟨by decide, oYH_L_nearest, (tt1 0 rfl rfl), ⟨by decide, by decide⟩, by decide +kernel⟩
theorem hp_nearest_ok {a V : Int} {k n : Nat} {R : sT → (Nat → Nat) → Prop} (hV : R32 V) (h : Fn g zX5_nearest k n [.ref 0, iv a] σ l (fun o τ l' => o = .inl (some (iv V)) ∧ R τ l')) : Fn g zL_nearest k n [.ref 0, iv a, .ref 108] σ l (fun o ω l' => o = .inl (some (iv 0)) ∧ ∃ τ, R τ l' ∧ ω = up τ 108 0 V) := by
  refine Rn.ofH [some (.ref 0), some (iv a), some (.ref 108), none] (by decide) (by decide) (Nat.le_of_ble_eq_true rfl) rfl ?_
  refine g_aload2 dL_nearest_0 ?_
  refine g_iconst dL_nearest_1 ?_
  refine g_aload0 dL_nearest_2 ?_
  refine g_iload1 dL_nearest_3 ?_
  refine f_cV1q (h) rfl (by decide) rfl oY_X5_nearest oI_X5_nearest lk_L_61 rfl dL_nearest_4 (Nat.le_refl _) (Nat.le_refl _) rfl (okFb_of rfl) (fun σ4 l4 h4 => ?_)
  refine g_i2l hV dL_nearest_7 ?_
  refine f_last rfl (by decide) ⟨by omega, by show _ < ((1 : Nat) : Int); omega⟩ dL_nearest_8 ?_
  refine g_goto (tgt := 15) dL_nearest_9 rfl ?_
  refine g_iconst dL_nearest_15 ?_
  refine g_iretI rfl dL_nearest_16 ?_
  exact fn_ret ⟨rfl, σ4, h4, rfl⟩
theorem hp_nearest_t1 {a : Int} (h : Ft g zX5_nearest [.ref 0, iv a] σ l 0) : Fn g zL_nearest 1 6 [.ref 0, iv a, .ref 108] σ l (fun o ω l' => o = .inl (some (iv 1)) ∧ ω = σ ∧ l' = l) := by
  refine Rn.ofH [some (.ref 0), some (iv a), some (.ref 108), none] (by decide) (by decide) (Nat.le_of_ble_eq_true rfl) rfl ?_
  refine g_aload2 dL_nearest_0 ?_
  refine g_iconst dL_nearest_1 ?_
  refine g_aload0 dL_nearest_2 ?_
  refine g_iload1 dL_nearest_3 ?_
  refine f_callVH (w := 1) (As := [iv a]) (e := 0) (hpc := 12) h rfl (by decide) rfl oY_X5_nearest oI_X5_nearest lk_L_61 rfl dL_nearest_4 (by decide) (by decide) rfl ⟨[], (0, 9, 12, 13), [], rfl, rfl, rfl, by decide, cl_IAE, ct_IAE, fun z hz => by cases hz⟩ (Or.inl ⟨3, dL_nearest_12, by decide, rfl⟩) ?_
  refine g_iconst dL_nearest_13 ?_
  refine g_iretI rfl dL_nearest_14 ?_
  exact fn_ret ⟨rfl, rfl, rfl⟩
theorem oYX_L_note : okYH zL_note 3 := ⟨by decide, oYH_L_note, (tt1 0 rfl rfl), ⟨by decide, by decide⟩, by decide +kernel⟩
theorem hp_note_ok {a V : Int} {k n : Nat} {R : sT → (Nat → Nat) → Prop} (hV : R32 V) (h : Fn g zX5_note k n [.ref 0, iv a] σ l (fun o τ l' => o = .inl (some (iv V)) ∧ R τ l')) : Fn g zL_note k n [.ref 0, iv a, .ref 108] σ l (fun o ω l' => o = .inl (some (iv 0)) ∧ ∃ τ, R τ l' ∧ ω = up τ 108 0 V) := by
  refine Rn.ofH [some (.ref 0), some (iv a), some (.ref 108), none] (by decide) (by decide) (Nat.le_of_ble_eq_true rfl) rfl ?_
  refine g_aload2 dL_note_0 ?_
  refine g_iconst dL_note_1 ?_
  refine g_aload0 dL_note_2 ?_
  refine g_iload1 dL_note_3 ?_
  refine f_cV1q (h) rfl (by decide) rfl oY_X5_note oI_X5_note lk_L_64 rfl dL_note_4 (Nat.le_refl _) (Nat.le_refl _) rfl (Or.inl rfl) (fun σ4 l4 h4 => ?_)
  refine g_i2l hV dL_note_7 ?_
  refine f_last rfl (by decide) ⟨by omega, by show _ < ((1 : Nat) : Int); omega⟩ dL_note_8 ?_
  refine g_goto (tgt := 15) dL_note_9 rfl ?_
  refine g_iconst dL_note_15 ?_
  refine g_iretI rfl dL_note_16 ?_
  exact fn_ret ⟨rfl, σ4, h4, rfl⟩
theorem hp_note_t1 {a : Int} (h : Ft g zX5_note [.ref 0, iv a] σ l 1) : Fn g zL_note 1 6 [.ref 0, iv a, .ref 108] σ l (fun o ω l' => o = .inl (some (iv 1)) ∧ ω = σ ∧ l' = l) := by
  refine Rn.ofH [some (.ref 0), some (iv a), some (.ref 108), none] (by decide) (by decide) (Nat.le_of_ble_eq_true rfl) rfl ?_
  refine g_aload2 dL_note_0 ?_
  refine g_iconst dL_note_1 ?_
  refine g_aload0 dL_note_2 ?_
  refine g_iload1 dL_note_3 ?_
  refine f_callVH (w := 1) (As := [iv a]) (e := 1) (hpc := 12) h rfl (by decide) rfl oY_X5_note oI_X5_note lk_L_64 rfl dL_note_4 (by decide) (by decide) rfl ⟨[], (0, 9, 12, 19), [], rfl, rfl, rfl, by decide, cl_IOB, ct_IOB, fun z hz => by cases hz⟩ (Or.inl ⟨3, dL_note_12, by decide, rfl⟩) ?_
  refine g_iconst dL_note_13 ?_
  refine g_iretI rfl dL_note_14 ?_
  exact fn_ret ⟨rfl, rfl, rfl⟩
theorem oYX_L_wayPlay : okYH zL_wayPlay 3 := ⟨by decide, oYH_L_wayPlay, (tt1 0 rfl rfl), ⟨by decide, by decide⟩, by decide +kernel⟩
theorem hp_wayPlay_ok {a V : Int} {k n : Nat} {R : sT → (Nat → Nat) → Prop} (hV : R32 V) (h : Fn g zX5_wayPlay k n [.ref 0, iv a] σ l (fun o τ l' => o = .inl (some (iv V)) ∧ R τ l')) : Fn g zL_wayPlay k n [.ref 0, iv a, .ref 108] σ l (fun o ω l' => o = .inl (some (iv 0)) ∧ ∃ τ, R τ l' ∧ ω = up τ 108 0 V) := by
  refine Rn.ofH [some (.ref 0), some (iv a), some (.ref 108), none] (by decide) (by decide) (Nat.le_of_ble_eq_true rfl) rfl ?_
  refine g_aload2 dL_wayPlay_0 ?_
  refine g_iconst dL_wayPlay_1 ?_
  refine g_aload0 dL_wayPlay_2 ?_
  refine g_iload1 dL_wayPlay_3 ?_
  refine f_cV1q (h) rfl (by decide) rfl oY_X5_wayPlay oI_X5_wayPlay lk_L_67 rfl dL_wayPlay_4 (Nat.le_refl _) (Nat.le_refl _) rfl (okFb_of rfl) (fun σ4 l4 h4 => ?_)
  refine g_i2l hV dL_wayPlay_7 ?_
  refine f_last rfl (by decide) ⟨by omega, by show _ < ((1 : Nat) : Int); omega⟩ dL_wayPlay_8 ?_
  refine g_goto (tgt := 15) dL_wayPlay_9 rfl ?_
  refine g_iconst dL_wayPlay_15 ?_
  refine g_iretI rfl dL_wayPlay_16 ?_
  exact fn_ret ⟨rfl, σ4, h4, rfl⟩
theorem hp_wayPlay_t1 {a : Int} (h : Ft g zX5_wayPlay [.ref 0, iv a] σ l 1) : Fn g zL_wayPlay 1 6 [.ref 0, iv a, .ref 108] σ l (fun o ω l' => o = .inl (some (iv 1)) ∧ ω = σ ∧ l' = l) := by
  refine Rn.ofH [some (.ref 0), some (iv a), some (.ref 108), none] (by decide) (by decide) (Nat.le_of_ble_eq_true rfl) rfl ?_
  refine g_aload2 dL_wayPlay_0 ?_
  refine g_iconst dL_wayPlay_1 ?_
  refine g_aload0 dL_wayPlay_2 ?_
  refine g_iload1 dL_wayPlay_3 ?_
  refine f_callVH (w := 1) (As := [iv a]) (e := 1) (hpc := 12) h rfl (by decide) rfl oY_X5_wayPlay oI_X5_wayPlay lk_L_67 rfl dL_wayPlay_4 (by decide) (by decide) rfl ⟨[], (0, 9, 12, 19), [], rfl, rfl, rfl, by decide, cl_IOB, ct_IOB, fun z hz => by cases hz⟩ (Or.inl ⟨3, dL_wayPlay_12, by decide, rfl⟩) ?_
  refine g_iconst dL_wayPlay_13 ?_
  refine g_iretI rfl dL_wayPlay_14 ?_
  exact fn_ret ⟨rfl, rfl, rfl⟩
theorem oYX_L_wayChange : okYH zL_wayChange 3 := ⟨by decide, oYH_L_wayChange, (tt1 0 rfl rfl), ⟨by decide, by decide⟩, by decide +kernel⟩
theorem hp_wayChange_ok {a V : Int} {k n : Nat} {R : sT → (Nat → Nat) → Prop} (hV : R32 V) (h : Fn g zX5_wayChange k n [.ref 0, iv a] σ l (fun o τ l' => o = .inl (some (iv V)) ∧ R τ l')) : Fn g zL_wayChange k n [.ref 0, iv a, .ref 108] σ l (fun o ω l' => o = .inl (some (iv 0)) ∧ ∃ τ, R τ l' ∧ ω = up τ 108 0 V) := by
  refine Rn.ofH [some (.ref 0), some (iv a), some (.ref 108), none] (by decide) (by decide) (Nat.le_of_ble_eq_true rfl) rfl ?_
  refine g_aload2 dL_wayChange_0 ?_
  refine g_iconst dL_wayChange_1 ?_
  refine g_aload0 dL_wayChange_2 ?_
  refine g_iload1 dL_wayChange_3 ?_
  refine f_cV1q (h) rfl (by decide) rfl oY_X5_wayChange oI_X5_wayChange lk_L_70 rfl dL_wayChange_4 (Nat.le_refl _) (Nat.le_refl _) rfl (okFb_of rfl) (fun σ4 l4 h4 => ?_)
  refine g_i2l hV dL_wayChange_7 ?_
  refine f_last rfl (by decide) ⟨by omega, by show _ < ((1 : Nat) : Int); omega⟩ dL_wayChange_8 ?_
  refine g_goto (tgt := 15) dL_wayChange_9 rfl ?_
  refine g_iconst dL_wayChange_15 ?_
  refine g_iretI rfl dL_wayChange_16 ?_
  exact fn_ret ⟨rfl, σ4, h4, rfl⟩
theorem hp_wayChange_t1 {a : Int} (h : Ft g zX5_wayChange [.ref 0, iv a] σ l 1) : Fn g zL_wayChange 1 6 [.ref 0, iv a, .ref 108] σ l (fun o ω l' => o = .inl (some (iv 1)) ∧ ω = σ ∧ l' = l) := by
  refine Rn.ofH [some (.ref 0), some (iv a), some (.ref 108), none] (by decide) (by decide) (Nat.le_of_ble_eq_true rfl) rfl ?_
  refine g_aload2 dL_wayChange_0 ?_
  refine g_iconst dL_wayChange_1 ?_
  refine g_aload0 dL_wayChange_2 ?_
  refine g_iload1 dL_wayChange_3 ?_
  refine f_callVH (w := 1) (As := [iv a]) (e := 1) (hpc := 12) h rfl (by decide) rfl oY_X5_wayChange oI_X5_wayChange lk_L_70 rfl dL_wayChange_4 (by decide) (by decide) rfl ⟨[], (0, 9, 12, 19), [], rfl, rfl, rfl, by decide, cl_IOB, ct_IOB, fun z hz => by cases hz⟩ (Or.inl ⟨3, dL_wayChange_12, by decide, rfl⟩) ?_
  refine g_iconst dL_wayChange_13 ?_
  refine g_iretI rfl dL_wayChange_14 ?_
  exact fn_ret ⟨rfl, rfl, rfl⟩
theorem oYX_L_moved : okYH zL_moved 3 := ⟨by decide, oYH_L_moved, (tt1 0 rfl rfl), ⟨by decide, by decide⟩, by decide +kernel⟩
theorem hp_moved_ok {a V : Int} {k n : Nat} {R : sT → (Nat → Nat) → Prop} (hV : R32 V) (h : Fn g zX5_moved k n [.ref 0, iv a] σ l (fun o τ l' => o = .inl (some (iv V)) ∧ R τ l')) : Fn g zL_moved k n [.ref 0, iv a, .ref 108] σ l (fun o ω l' => o = .inl (some (iv 0)) ∧ ∃ τ, R τ l' ∧ ω = up τ 108 0 V) := by
  refine Rn.ofH [some (.ref 0), some (iv a), some (.ref 108), none] (by decide) (by decide) (Nat.le_of_ble_eq_true rfl) rfl ?_
  refine g_aload2 dL_moved_0 ?_
  refine g_iconst dL_moved_1 ?_
  refine g_aload0 dL_moved_2 ?_
  refine g_iload1 dL_moved_3 ?_
  refine f_cV1q (h) rfl (by decide) rfl oY_X5_moved oI_X5_moved lk_L_73 rfl dL_moved_4 (Nat.le_refl _) (Nat.le_refl _) rfl (okFb_of rfl) (fun σ4 l4 h4 => ?_)
  refine g_i2l hV dL_moved_7 ?_
  refine f_last rfl (by decide) ⟨by omega, by show _ < ((1 : Nat) : Int); omega⟩ dL_moved_8 ?_
  refine g_goto (tgt := 15) dL_moved_9 rfl ?_
  refine g_iconst dL_moved_15 ?_
  refine g_iretI rfl dL_moved_16 ?_
  exact fn_ret ⟨rfl, σ4, h4, rfl⟩
theorem hp_moved_t1 {a : Int} (h : Ft g zX5_moved [.ref 0, iv a] σ l 1) : Fn g zL_moved 1 6 [.ref 0, iv a, .ref 108] σ l (fun o ω l' => o = .inl (some (iv 1)) ∧ ω = σ ∧ l' = l) := by
  refine Rn.ofH [some (.ref 0), some (iv a), some (.ref 108), none] (by decide) (by decide) (Nat.le_of_ble_eq_true rfl) rfl ?_
  refine g_aload2 dL_moved_0 ?_
  refine g_iconst dL_moved_1 ?_
  refine g_aload0 dL_moved_2 ?_
  refine g_iload1 dL_moved_3 ?_
  refine f_callVH (w := 1) (As := [iv a]) (e := 1) (hpc := 12) h rfl (by decide) rfl oY_X5_moved oI_X5_moved lk_L_73 rfl dL_moved_4 (by decide) (by decide) rfl ⟨[], (0, 9, 12, 19), [], rfl, rfl, rfl, by decide, cl_IOB, ct_IOB, fun z hz => by cases hz⟩ (Or.inl ⟨3, dL_moved_12, by decide, rfl⟩) ?_
  refine g_iconst dL_moved_13 ?_
  refine g_iretI rfl dL_moved_14 ?_
  exact fn_ret ⟨rfl, rfl, rfl⟩
theorem oYX_L_costBy : okYH zL_costBy 3 := ⟨by decide, oYH_L_costBy, (tt1 0 rfl rfl), ⟨by decide, by decide⟩, by decide +kernel⟩
theorem hp_costBy_ok {a V : Int} {k n : Nat} {R : sT → (Nat → Nat) → Prop} (hV : R32 V) (h : Fn g zX5_costBy k n [.ref 0, iv a] σ l (fun o τ l' => o = .inl (some (iv V)) ∧ R τ l')) : Fn g zL_costBy k n [.ref 0, iv a, .ref 108] σ l (fun o ω l' => o = .inl (some (iv 0)) ∧ ∃ τ, R τ l' ∧ ω = up τ 108 0 V) := by
  refine Rn.ofH [some (.ref 0), some (iv a), some (.ref 108), none] (by decide) (by decide) (Nat.le_of_ble_eq_true rfl) rfl ?_
  refine g_aload2 dL_costBy_0 ?_
  refine g_iconst dL_costBy_1 ?_
  refine g_aload0 dL_costBy_2 ?_
  refine g_iload1 dL_costBy_3 ?_
  refine f_cV1q (h) rfl (by decide) rfl oY_X5_costBy oI_X5_costBy lk_L_76 rfl dL_costBy_4 (Nat.le_refl _) (Nat.le_refl _) rfl (okFb_of rfl) (fun σ4 l4 h4 => ?_)
  refine g_i2l hV dL_costBy_7 ?_
  refine f_last rfl (by decide) ⟨by omega, by show _ < ((1 : Nat) : Int); omega⟩ dL_costBy_8 ?_
  refine g_goto (tgt := 15) dL_costBy_9 rfl ?_
  refine g_iconst dL_costBy_15 ?_
  refine g_iretI rfl dL_costBy_16 ?_
  exact fn_ret ⟨rfl, σ4, h4, rfl⟩
theorem hp_costBy_t1 {a : Int} (h : Ft g zX5_costBy [.ref 0, iv a] σ l 0) : Fn g zL_costBy 1 6 [.ref 0, iv a, .ref 108] σ l (fun o ω l' => o = .inl (some (iv 1)) ∧ ω = σ ∧ l' = l) := by
  refine Rn.ofH [some (.ref 0), some (iv a), some (.ref 108), none] (by decide) (by decide) (Nat.le_of_ble_eq_true rfl) rfl ?_
  refine g_aload2 dL_costBy_0 ?_
  refine g_iconst dL_costBy_1 ?_
  refine g_aload0 dL_costBy_2 ?_
  refine g_iload1 dL_costBy_3 ?_
  refine f_callVH (w := 1) (As := [iv a]) (e := 0) (hpc := 12) h rfl (by decide) rfl oY_X5_costBy oI_X5_costBy lk_L_76 rfl dL_costBy_4 (by decide) (by decide) rfl ⟨[], (0, 9, 12, 13), [], rfl, rfl, rfl, by decide, cl_IAE, ct_IAE, fun z hz => by cases hz⟩ (Or.inl ⟨3, dL_costBy_12, by decide, rfl⟩) ?_
  refine g_iconst dL_costBy_13 ?_
  refine g_iretI rfl dL_costBy_14 ?_
  exact fn_ret ⟨rfl, rfl, rfl⟩
theorem oYX_L_costWith : okYH zL_costWith 4 := ⟨by decide, oYH_L_costWith, (tt1 0 rfl rfl), ⟨by decide, by decide⟩, by decide +kernel⟩
theorem hp_costWith_ok {a b V : Int} {k n : Nat} {R : sT → (Nat → Nat) → Prop} (hV : R32 V) (h : Fn g zX5_costWith k n [.ref 0, iv a, iv b] σ l (fun o τ l' => o = .inl (some (iv V)) ∧ R τ l')) : Fn g zL_costWith k n [.ref 0, iv a, iv b, .ref 108] σ l (fun o ω l' => o = .inl (some (iv 0)) ∧ ∃ τ, R τ l' ∧ ω = up τ 108 0 V) := by
  refine Rn.ofH [some (.ref 0), some (iv a), some (iv b), some (.ref 108), none] (by decide) (by decide) (Nat.le_of_ble_eq_true rfl) rfl ?_
  refine g_aload3 dL_costWith_0 ?_
  refine g_iconst dL_costWith_1 ?_
  refine g_aload0 dL_costWith_2 ?_
  refine g_iload1 dL_costWith_3 ?_
  refine g_iload2 dL_costWith_4 ?_
  refine f_cV2q (h) rfl (by decide) rfl oY_X5_costWith oI_X5_costWith lk_L_79 rfl dL_costWith_5 (Nat.le_refl _) (Nat.le_refl _) rfl (okFb_of rfl) (fun σ5 l5 h5 => ?_)
  refine g_i2l hV dL_costWith_8 ?_
  refine f_last rfl (by decide) ⟨by omega, by show _ < ((1 : Nat) : Int); omega⟩ dL_costWith_9 ?_
  refine g_goto (tgt := 17) dL_costWith_10 rfl ?_
  refine g_iconst dL_costWith_17 ?_
  refine g_iretI rfl dL_costWith_18 ?_
  exact fn_ret ⟨rfl, σ5, h5, rfl⟩
theorem hp_costWith_t1 {a b : Int} (h : Ft g zX5_costWith [.ref 0, iv a, iv b] σ l 0) : Fn g zL_costWith 1 6 [.ref 0, iv a, iv b, .ref 108] σ l (fun o ω l' => o = .inl (some (iv 1)) ∧ ω = σ ∧ l' = l) := by
  refine Rn.ofH [some (.ref 0), some (iv a), some (iv b), some (.ref 108), none] (by decide) (by decide) (Nat.le_of_ble_eq_true rfl) rfl ?_
  refine g_aload3 dL_costWith_0 ?_
  refine g_iconst dL_costWith_1 ?_
  refine g_aload0 dL_costWith_2 ?_
  refine g_iload1 dL_costWith_3 ?_
  refine g_iload2 dL_costWith_4 ?_
  refine f_callVH (w := 2) (As := [iv a, iv b]) (e := 0) (hpc := 13) h rfl (by decide) rfl oY_X5_costWith oI_X5_costWith lk_L_79 rfl dL_costWith_5 (by decide) (by decide) rfl ⟨[], (0, 10, 13, 13), [], rfl, rfl, rfl, by decide, cl_IAE, ct_IAE, fun z hz => by cases hz⟩ (Or.inr ⟨4, dL_costWith_13, by decide, rfl⟩) ?_
  refine g_iconst dL_costWith_15 ?_
  refine g_iretI rfl dL_costWith_16 ?_
  exact fn_ret ⟨rfl, rfl, rfl⟩
theorem oYX_L_setHole : okYH zL_setHole 5 := ⟨by decide, oYH_L_setHole, (tt1 0 rfl rfl), ⟨by decide, by decide⟩, by decide +kernel⟩
theorem hp_setHole_ok {a b c V : Int} {k n : Nat} {R : sT → (Nat → Nat) → Prop} (hV : R32 V) (h : Fn g zX5_setHole k n [.ref 0, iv a, iv b, iv c] σ l (fun o τ l' => o = .inl (some (iv V)) ∧ R τ l')) : Fn g zL_setHole k n [.ref 0, iv a, iv b, iv c, .ref 108] σ l (fun o ω l' => o = .inl (some (iv 0)) ∧ ∃ τ, R τ l' ∧ ω = up τ 108 0 V) := by
  refine Rn.ofH [some (.ref 0), some (iv a), some (iv b), some (iv c), some (.ref 108), none] (by decide) (by decide) (Nat.le_of_ble_eq_true rfl) rfl ?_
  refine g_aload4 dL_setHole_0 ?_
  refine g_iconst dL_setHole_2 ?_
  refine g_aload0 dL_setHole_3 ?_
  refine g_iload1 dL_setHole_4 ?_
  refine g_iload2 dL_setHole_5 ?_
  refine g_iload3 dL_setHole_6 ?_
  refine f_cV3q (h) rfl (by decide) rfl oY_X5_setHole oI_X5_setHole lk_L_82 rfl dL_setHole_7 (Nat.le_refl _) (Nat.le_refl _) rfl (Or.inl rfl) (fun σ7 l7 h7 => ?_)
  refine g_i2l hV dL_setHole_10 ?_
  refine f_last rfl (by decide) ⟨by omega, by show _ < ((1 : Nat) : Int); omega⟩ dL_setHole_11 ?_
  refine g_goto (tgt := 23) dL_setHole_12 rfl ?_
  refine g_iconst dL_setHole_23 ?_
  refine g_iretI rfl dL_setHole_24 ?_
  exact fn_ret ⟨rfl, σ7, h7, rfl⟩
theorem hp_setHole_t1 {a b c : Int} (h : Ft g zX5_setHole [.ref 0, iv a, iv b, iv c] σ l 1) : Fn g zL_setHole 1 6 [.ref 0, iv a, iv b, iv c, .ref 108] σ l (fun o ω l' => o = .inl (some (iv 1)) ∧ ω = σ ∧ l' = l) := by
  refine Rn.ofH [some (.ref 0), some (iv a), some (iv b), some (iv c), some (.ref 108), none] (by decide) (by decide) (Nat.le_of_ble_eq_true rfl) rfl ?_
  refine g_aload4 dL_setHole_0 ?_
  refine g_iconst dL_setHole_2 ?_
  refine g_aload0 dL_setHole_3 ?_
  refine g_iload1 dL_setHole_4 ?_
  refine g_iload2 dL_setHole_5 ?_
  refine g_iload3 dL_setHole_6 ?_
  refine f_callVH (w := 2) (As := [iv a, iv b, iv c]) (e := 1) (hpc := 15) h rfl (by decide) rfl oY_X5_setHole oI_X5_setHole lk_L_82 rfl dL_setHole_7 (by decide) (by decide) rfl ⟨[], (0, 12, 15, 19), [(0, 12, 19, 13)], rfl, rfl, rfl, by decide, cl_IOB, ct_IOB, fun z hz => by cases hz⟩ (Or.inr ⟨5, dL_setHole_15, by decide, rfl⟩) ?_
  refine g_iconst dL_setHole_17 ?_
  refine g_iretI rfl dL_setHole_18 ?_
  exact fn_ret ⟨rfl, rfl, rfl⟩
theorem hp_setHole_t2 {a b c : Int} (h : Ft g zX5_setHole [.ref 0, iv a, iv b, iv c] σ l 0) : Fn g zL_setHole 1 6 [.ref 0, iv a, iv b, iv c, .ref 108] σ l (fun o ω l' => o = .inl (some (iv 2)) ∧ ω = σ ∧ l' = l) := by
  refine Rn.ofH [some (.ref 0), some (iv a), some (iv b), some (iv c), some (.ref 108), none] (by decide) (by decide) (Nat.le_of_ble_eq_true rfl) rfl ?_
  refine g_aload4 dL_setHole_0 ?_
  refine g_iconst dL_setHole_2 ?_
  refine g_aload0 dL_setHole_3 ?_
  refine g_iload1 dL_setHole_4 ?_
  refine g_iload2 dL_setHole_5 ?_
  refine g_iload3 dL_setHole_6 ?_
  refine f_callVH (w := 2) (As := [iv a, iv b, iv c]) (e := 0) (hpc := 19) h rfl (by decide) rfl oY_X5_setHole oI_X5_setHole lk_L_82 rfl dL_setHole_7 (by decide) (by decide) rfl ⟨[(0, 12, 15, 19)], (0, 12, 19, 13), [], rfl, rfl, rfl, by decide, cl_IAE, ct_IAE, fun z hz => by
        rcases List.mem_cons.mp hz with rfl | h9
        · exact ⟨rfl, by decide, cl_IOB⟩
        · cases h9⟩ (Or.inr ⟨5, dL_setHole_19, by decide, rfl⟩) ?_
  refine g_iconst dL_setHole_21 ?_
  refine g_iretI rfl dL_setHole_22 ?_
  exact fn_ret ⟨rfl, rfl, rfl⟩
theorem oYX_L_setLimits : okYH zL_setLimits 4 := ⟨by decide, oYH_L_setLimits, (tt1 0 rfl rfl), ⟨by decide, by decide⟩, by decide +kernel⟩
theorem hp_setLimits_ok {a b V : Int} {k n : Nat} {R : sT → (Nat → Nat) → Prop} (hV : R32 V) (h : Fn g zX5_setLimits k n [.ref 0, iv a, iv b] σ l (fun o τ l' => o = .inl (some (iv V)) ∧ R τ l')) : Fn g zL_setLimits k n [.ref 0, iv a, iv b, .ref 108] σ l (fun o ω l' => o = .inl (some (iv 0)) ∧ ∃ τ, R τ l' ∧ ω = up τ 108 0 V) := by
  refine Rn.ofH [some (.ref 0), some (iv a), some (iv b), some (.ref 108), none] (by decide) (by decide) (Nat.le_of_ble_eq_true rfl) rfl ?_
  refine g_aload3 dL_setLimits_0 ?_
  refine g_iconst dL_setLimits_1 ?_
  refine g_aload0 dL_setLimits_2 ?_
  refine g_iload1 dL_setLimits_3 ?_
  refine g_iload2 dL_setLimits_4 ?_
  refine f_cV2q (h) rfl (by decide) rfl oY_X5_setLimits oI_X5_setLimits lk_L_86 rfl dL_setLimits_5 (Nat.le_refl _) (Nat.le_refl _) rfl (Or.inl rfl) (fun σ5 l5 h5 => ?_)
  refine g_i2l hV dL_setLimits_8 ?_
  refine f_last rfl (by decide) ⟨by omega, by show _ < ((1 : Nat) : Int); omega⟩ dL_setLimits_9 ?_
  refine g_goto (tgt := 17) dL_setLimits_10 rfl ?_
  refine g_iconst dL_setLimits_17 ?_
  refine g_iretI rfl dL_setLimits_18 ?_
  exact fn_ret ⟨rfl, σ5, h5, rfl⟩
theorem hp_setLimits_t1 {a b : Int} (h : Ft g zX5_setLimits [.ref 0, iv a, iv b] σ l 0) : Fn g zL_setLimits 1 6 [.ref 0, iv a, iv b, .ref 108] σ l (fun o ω l' => o = .inl (some (iv 1)) ∧ ω = σ ∧ l' = l) := by
  refine Rn.ofH [some (.ref 0), some (iv a), some (iv b), some (.ref 108), none] (by decide) (by decide) (Nat.le_of_ble_eq_true rfl) rfl ?_
  refine g_aload3 dL_setLimits_0 ?_
  refine g_iconst dL_setLimits_1 ?_
  refine g_aload0 dL_setLimits_2 ?_
  refine g_iload1 dL_setLimits_3 ?_
  refine g_iload2 dL_setLimits_4 ?_
  refine f_callVH (w := 2) (As := [iv a, iv b]) (e := 0) (hpc := 13) h rfl (by decide) rfl oY_X5_setLimits oI_X5_setLimits lk_L_86 rfl dL_setLimits_5 (by decide) (by decide) rfl ⟨[], (0, 10, 13, 13), [], rfl, rfl, rfl, by decide, cl_IAE, ct_IAE, fun z hz => by cases hz⟩ (Or.inr ⟨4, dL_setLimits_13, by decide, rfl⟩) ?_
  refine g_iconst dL_setLimits_15 ?_
  refine g_iretI rfl dL_setLimits_16 ?_
  exact fn_ret ⟨rfl, rfl, rfl⟩
theorem oYX_L_setTolerance : okYH zL_setTolerance 3 := ⟨by decide, oYH_L_setTolerance, (tt1 0 rfl rfl), ⟨by decide, by decide⟩, by decide +kernel⟩
theorem hp_setTolerance_ok {a V : Int} {k n : Nat} {R : sT → (Nat → Nat) → Prop} (hV : R32 V) (h : Fn g zX5_setTolerance k n [.ref 0, iv a] σ l (fun o τ l' => o = .inl (some (iv V)) ∧ R τ l')) : Fn g zL_setTolerance k n [.ref 0, iv a, .ref 108] σ l (fun o ω l' => o = .inl (some (iv 0)) ∧ ∃ τ, R τ l' ∧ ω = up τ 108 0 V) := by
  refine Rn.ofH [some (.ref 0), some (iv a), some (.ref 108), none] (by decide) (by decide) (Nat.le_of_ble_eq_true rfl) rfl ?_
  refine g_aload2 dL_setTolerance_0 ?_
  refine g_iconst dL_setTolerance_1 ?_
  refine g_aload0 dL_setTolerance_2 ?_
  refine g_iload1 dL_setTolerance_3 ?_
  refine f_cV1q (h) rfl (by decide) rfl oY_X5_setTolerance oI_X5_setTolerance lk_L_89 rfl dL_setTolerance_4 (Nat.le_refl _) (Nat.le_refl _) rfl (Or.inl rfl) (fun σ4 l4 h4 => ?_)
  refine g_i2l hV dL_setTolerance_7 ?_
  refine f_last rfl (by decide) ⟨by omega, by show _ < ((1 : Nat) : Int); omega⟩ dL_setTolerance_8 ?_
  refine g_goto (tgt := 15) dL_setTolerance_9 rfl ?_
  refine g_iconst dL_setTolerance_15 ?_
  refine g_iretI rfl dL_setTolerance_16 ?_
  exact fn_ret ⟨rfl, σ4, h4, rfl⟩
theorem hp_setTolerance_t1 {a : Int} (h : Ft g zX5_setTolerance [.ref 0, iv a] σ l 0) : Fn g zL_setTolerance 1 6 [.ref 0, iv a, .ref 108] σ l (fun o ω l' => o = .inl (some (iv 1)) ∧ ω = σ ∧ l' = l) := by
  refine Rn.ofH [some (.ref 0), some (iv a), some (.ref 108), none] (by decide) (by decide) (Nat.le_of_ble_eq_true rfl) rfl ?_
  refine g_aload2 dL_setTolerance_0 ?_
  refine g_iconst dL_setTolerance_1 ?_
  refine g_aload0 dL_setTolerance_2 ?_
  refine g_iload1 dL_setTolerance_3 ?_
  refine f_callVH (w := 1) (As := [iv a]) (e := 0) (hpc := 12) h rfl (by decide) rfl oY_X5_setTolerance oI_X5_setTolerance lk_L_89 rfl dL_setTolerance_4 (by decide) (by decide) rfl ⟨[], (0, 9, 12, 13), [], rfl, rfl, rfl, by decide, cl_IAE, ct_IAE, fun z hz => by cases hz⟩ (Or.inl ⟨3, dL_setTolerance_12, by decide, rfl⟩) ?_
  refine g_iconst dL_setTolerance_13 ?_
  refine g_iretI rfl dL_setTolerance_14 ?_
  exact fn_ret ⟨rfl, rfl, rfl⟩
theorem oYX_L_setCosts : okYH zL_setCosts 5 := ⟨by decide, oYH_L_setCosts, (tt1 0 rfl rfl), ⟨by decide, by decide⟩, by decide +kernel⟩
theorem hp_setCosts_ok {a b c V : Int} {k n : Nat} {R : sT → (Nat → Nat) → Prop} (hV : R32 V) (h : Fn g zX5_setCosts k n [.ref 0, iv a, iv b, iv c] σ l (fun o τ l' => o = .inl (some (iv V)) ∧ R τ l')) : Fn g zL_setCosts k n [.ref 0, iv a, iv b, iv c, .ref 108] σ l (fun o ω l' => o = .inl (some (iv 0)) ∧ ∃ τ, R τ l' ∧ ω = up τ 108 0 V) := by
  refine Rn.ofH [some (.ref 0), some (iv a), some (iv b), some (iv c), some (.ref 108), none] (by decide) (by decide) (Nat.le_of_ble_eq_true rfl) rfl ?_
  refine g_aload4 dL_setCosts_0 ?_
  refine g_iconst dL_setCosts_2 ?_
  refine g_aload0 dL_setCosts_3 ?_
  refine g_iload1 dL_setCosts_4 ?_
  refine g_iload2 dL_setCosts_5 ?_
  refine g_iload3 dL_setCosts_6 ?_
  refine f_cV3q (h) rfl (by decide) rfl oY_X5_setCosts oI_X5_setCosts lk_L_92 rfl dL_setCosts_7 (Nat.le_refl _) (Nat.le_refl _) rfl (Or.inl rfl) (fun σ7 l7 h7 => ?_)
  refine g_i2l hV dL_setCosts_10 ?_
  refine f_last rfl (by decide) ⟨by omega, by show _ < ((1 : Nat) : Int); omega⟩ dL_setCosts_11 ?_
  refine g_goto (tgt := 19) dL_setCosts_12 rfl ?_
  refine g_iconst dL_setCosts_19 ?_
  refine g_iretI rfl dL_setCosts_20 ?_
  exact fn_ret ⟨rfl, σ7, h7, rfl⟩
theorem hp_setCosts_t1 {a b c : Int} (h : Ft g zX5_setCosts [.ref 0, iv a, iv b, iv c] σ l 0) : Fn g zL_setCosts 1 6 [.ref 0, iv a, iv b, iv c, .ref 108] σ l (fun o ω l' => o = .inl (some (iv 1)) ∧ ω = σ ∧ l' = l) := by
  refine Rn.ofH [some (.ref 0), some (iv a), some (iv b), some (iv c), some (.ref 108), none] (by decide) (by decide) (Nat.le_of_ble_eq_true rfl) rfl ?_
  refine g_aload4 dL_setCosts_0 ?_
  refine g_iconst dL_setCosts_2 ?_
  refine g_aload0 dL_setCosts_3 ?_
  refine g_iload1 dL_setCosts_4 ?_
  refine g_iload2 dL_setCosts_5 ?_
  refine g_iload3 dL_setCosts_6 ?_
  refine f_callVH (w := 2) (As := [iv a, iv b, iv c]) (e := 0) (hpc := 15) h rfl (by decide) rfl oY_X5_setCosts oI_X5_setCosts lk_L_92 rfl dL_setCosts_7 (by decide) (by decide) rfl ⟨[], (0, 12, 15, 13), [], rfl, rfl, rfl, by decide, cl_IAE, ct_IAE, fun z hz => by cases hz⟩ (Or.inr ⟨5, dL_setCosts_15, by decide, rfl⟩) ?_
  refine g_iconst dL_setCosts_17 ?_
  refine g_iretI rfl dL_setCosts_18 ?_
  exact fn_ret ⟨rfl, rfl, rfl⟩
theorem oYX_L_addNote : okYH zL_addNote 3 := ⟨by decide, oYH_L_addNote, (tt1 0 rfl rfl), ⟨by decide, by decide⟩, by decide +kernel⟩
theorem hp_addNote_ok {a V : Int} {k n : Nat} {R : sT → (Nat → Nat) → Prop} (hV : R32 V) (h : Fn g zX5_addNote k n [.ref 0, iv a] σ l (fun o τ l' => o = .inl (some (iv V)) ∧ R τ l')) : Fn g zL_addNote k n [.ref 0, iv a, .ref 108] σ l (fun o ω l' => o = .inl (some (iv 0)) ∧ ∃ τ, R τ l' ∧ ω = up τ 108 0 V) := by
  refine Rn.ofH [some (.ref 0), some (iv a), some (.ref 108), none] (by decide) (by decide) (Nat.le_of_ble_eq_true rfl) rfl ?_
  refine g_aload2 dL_addNote_0 ?_
  refine g_iconst dL_addNote_1 ?_
  refine g_aload0 dL_addNote_2 ?_
  refine g_iload1 dL_addNote_3 ?_
  refine f_cV1q (h) rfl (by decide) rfl oY_X5_addNote oI_X5_addNote lk_L_95 rfl dL_addNote_4 (Nat.le_refl _) (Nat.le_refl _) rfl (Or.inl rfl) (fun σ4 l4 h4 => ?_)
  refine g_i2l hV dL_addNote_7 ?_
  refine f_last rfl (by decide) ⟨by omega, by show _ < ((1 : Nat) : Int); omega⟩ dL_addNote_8 ?_
  refine g_goto (tgt := 15) dL_addNote_9 rfl ?_
  refine g_iconst dL_addNote_15 ?_
  refine g_iretI rfl dL_addNote_16 ?_
  exact fn_ret ⟨rfl, σ4, h4, rfl⟩
theorem hp_addNote_t1 {a : Int} (h : Ft g zX5_addNote [.ref 0, iv a] σ l 0) : Fn g zL_addNote 1 6 [.ref 0, iv a, .ref 108] σ l (fun o ω l' => o = .inl (some (iv 1)) ∧ ω = σ ∧ l' = l) := by
  refine Rn.ofH [some (.ref 0), some (iv a), some (.ref 108), none] (by decide) (by decide) (Nat.le_of_ble_eq_true rfl) rfl ?_
  refine g_aload2 dL_addNote_0 ?_
  refine g_iconst dL_addNote_1 ?_
  refine g_aload0 dL_addNote_2 ?_
  refine g_iload1 dL_addNote_3 ?_
  refine f_callVH (w := 1) (As := [iv a]) (e := 0) (hpc := 12) h rfl (by decide) rfl oY_X5_addNote oI_X5_addNote lk_L_95 rfl dL_addNote_4 (by decide) (by decide) rfl ⟨[], (0, 9, 12, 13), [], rfl, rfl, rfl, by decide, cl_IAE, ct_IAE, fun z hz => by cases hz⟩ (Or.inl ⟨3, dL_addNote_12, by decide, rfl⟩) ?_
  refine g_iconst dL_addNote_13 ?_
  refine g_iretI rfl dL_addNote_14 ?_
  exact fn_ret ⟨rfl, rfl, rfl⟩
theorem oYX_L_setNote : okYH zL_setNote 4 := ⟨by decide, oYH_L_setNote, (tt1 0 rfl rfl), ⟨by decide, by decide⟩, by decide +kernel⟩
theorem hp_setNote_ok {a b V : Int} {k n : Nat} {R : sT → (Nat → Nat) → Prop} (hV : R32 V) (h : Fn g zX5_setNote k n [.ref 0, iv a, iv b] σ l (fun o τ l' => o = .inl (some (iv V)) ∧ R τ l')) : Fn g zL_setNote k n [.ref 0, iv a, iv b, .ref 108] σ l (fun o ω l' => o = .inl (some (iv 0)) ∧ ∃ τ, R τ l' ∧ ω = up τ 108 0 V) := by
  refine Rn.ofH [some (.ref 0), some (iv a), some (iv b), some (.ref 108), none] (by decide) (by decide) (Nat.le_of_ble_eq_true rfl) rfl ?_
  refine g_aload3 dL_setNote_0 ?_
  refine g_iconst dL_setNote_1 ?_
  refine g_aload0 dL_setNote_2 ?_
  refine g_iload1 dL_setNote_3 ?_
  refine g_iload2 dL_setNote_4 ?_
  refine f_cV2q (h) rfl (by decide) rfl oY_X5_setNote oI_X5_setNote lk_L_98 rfl dL_setNote_5 (Nat.le_refl _) (Nat.le_refl _) rfl (Or.inl rfl) (fun σ5 l5 h5 => ?_)
  refine g_i2l hV dL_setNote_8 ?_
  refine f_last rfl (by decide) ⟨by omega, by show _ < ((1 : Nat) : Int); omega⟩ dL_setNote_9 ?_
  refine g_goto (tgt := 21) dL_setNote_10 rfl ?_
  refine g_iconst dL_setNote_21 ?_
  refine g_iretI rfl dL_setNote_22 ?_
  exact fn_ret ⟨rfl, σ5, h5, rfl⟩
theorem hp_setNote_t1 {a b : Int} (h : Ft g zX5_setNote [.ref 0, iv a, iv b] σ l 1) : Fn g zL_setNote 1 6 [.ref 0, iv a, iv b, .ref 108] σ l (fun o ω l' => o = .inl (some (iv 1)) ∧ ω = σ ∧ l' = l) := by
  refine Rn.ofH [some (.ref 0), some (iv a), some (iv b), some (.ref 108), none] (by decide) (by decide) (Nat.le_of_ble_eq_true rfl) rfl ?_
  refine g_aload3 dL_setNote_0 ?_
  refine g_iconst dL_setNote_1 ?_
  refine g_aload0 dL_setNote_2 ?_
  refine g_iload1 dL_setNote_3 ?_
  refine g_iload2 dL_setNote_4 ?_
  refine f_callVH (w := 2) (As := [iv a, iv b]) (e := 1) (hpc := 13) h rfl (by decide) rfl oY_X5_setNote oI_X5_setNote lk_L_98 rfl dL_setNote_5 (by decide) (by decide) rfl ⟨[], (0, 10, 13, 19), [(0, 10, 17, 13)], rfl, rfl, rfl, by decide, cl_IOB, ct_IOB, fun z hz => by cases hz⟩ (Or.inr ⟨4, dL_setNote_13, by decide, rfl⟩) ?_
  refine g_iconst dL_setNote_15 ?_
  refine g_iretI rfl dL_setNote_16 ?_
  exact fn_ret ⟨rfl, rfl, rfl⟩
theorem hp_setNote_t2 {a b : Int} (h : Ft g zX5_setNote [.ref 0, iv a, iv b] σ l 0) : Fn g zL_setNote 1 6 [.ref 0, iv a, iv b, .ref 108] σ l (fun o ω l' => o = .inl (some (iv 2)) ∧ ω = σ ∧ l' = l) := by
  refine Rn.ofH [some (.ref 0), some (iv a), some (iv b), some (.ref 108), none] (by decide) (by decide) (Nat.le_of_ble_eq_true rfl) rfl ?_
  refine g_aload3 dL_setNote_0 ?_
  refine g_iconst dL_setNote_1 ?_
  refine g_aload0 dL_setNote_2 ?_
  refine g_iload1 dL_setNote_3 ?_
  refine g_iload2 dL_setNote_4 ?_
  refine f_callVH (w := 2) (As := [iv a, iv b]) (e := 0) (hpc := 17) h rfl (by decide) rfl oY_X5_setNote oI_X5_setNote lk_L_98 rfl dL_setNote_5 (by decide) (by decide) rfl ⟨[(0, 10, 13, 19)], (0, 10, 17, 13), [], rfl, rfl, rfl, by decide, cl_IAE, ct_IAE, fun z hz => by
        rcases List.mem_cons.mp hz with rfl | h9
        · exact ⟨rfl, by decide, cl_IOB⟩
        · cases h9⟩ (Or.inr ⟨4, dL_setNote_17, by decide, rfl⟩) ?_
  refine g_iconst dL_setNote_19 ?_
  refine g_iretI rfl dL_setNote_20 ?_
  exact fn_ret ⟨rfl, rfl, rfl⟩
theorem oYX_L_dropNote : okYH zL_dropNote 3 := ⟨by decide, oYH_L_dropNote, (tt1 0 rfl rfl), ⟨by decide, by decide⟩, by decide +kernel⟩
theorem hp_dropNote_ok {a V : Int} {k n : Nat} {R : sT → (Nat → Nat) → Prop} (hV : R32 V) (h : Fn g zX5_dropNote k n [.ref 0, iv a] σ l (fun o τ l' => o = .inl (some (iv V)) ∧ R τ l')) : Fn g zL_dropNote k n [.ref 0, iv a, .ref 108] σ l (fun o ω l' => o = .inl (some (iv 0)) ∧ ∃ τ, R τ l' ∧ ω = up τ 108 0 V) := by
  refine Rn.ofH [some (.ref 0), some (iv a), some (.ref 108), none] (by decide) (by decide) (Nat.le_of_ble_eq_true rfl) rfl ?_
  refine g_aload2 dL_dropNote_0 ?_
  refine g_iconst dL_dropNote_1 ?_
  refine g_aload0 dL_dropNote_2 ?_
  refine g_iload1 dL_dropNote_3 ?_
  refine f_cV1q (h) rfl (by decide) rfl oY_X5_dropNote oI_X5_dropNote lk_L_101 rfl dL_dropNote_4 (Nat.le_refl _) (Nat.le_refl _) rfl (Or.inl rfl) (fun σ4 l4 h4 => ?_)
  refine g_i2l hV dL_dropNote_7 ?_
  refine f_last rfl (by decide) ⟨by omega, by show _ < ((1 : Nat) : Int); omega⟩ dL_dropNote_8 ?_
  refine g_goto (tgt := 15) dL_dropNote_9 rfl ?_
  refine g_iconst dL_dropNote_15 ?_
  refine g_iretI rfl dL_dropNote_16 ?_
  exact fn_ret ⟨rfl, σ4, h4, rfl⟩
theorem hp_dropNote_t1 {a : Int} (h : Ft g zX5_dropNote [.ref 0, iv a] σ l 1) : Fn g zL_dropNote 1 6 [.ref 0, iv a, .ref 108] σ l (fun o ω l' => o = .inl (some (iv 1)) ∧ ω = σ ∧ l' = l) := by
  refine Rn.ofH [some (.ref 0), some (iv a), some (.ref 108), none] (by decide) (by decide) (Nat.le_of_ble_eq_true rfl) rfl ?_
  refine g_aload2 dL_dropNote_0 ?_
  refine g_iconst dL_dropNote_1 ?_
  refine g_aload0 dL_dropNote_2 ?_
  refine g_iload1 dL_dropNote_3 ?_
  refine f_callVH (w := 1) (As := [iv a]) (e := 1) (hpc := 12) h rfl (by decide) rfl oY_X5_dropNote oI_X5_dropNote lk_L_101 rfl dL_dropNote_4 (by decide) (by decide) rfl ⟨[], (0, 9, 12, 19), [], rfl, rfl, rfl, by decide, cl_IOB, ct_IOB, fun z hz => by cases hz⟩ (Or.inl ⟨3, dL_dropNote_12, by decide, rfl⟩) ?_
  refine g_iconst dL_dropNote_13 ?_
  refine g_iretI rfl dL_dropNote_14 ?_
  exact fn_ret ⟨rfl, rfl, rfl⟩
theorem oYX_L_repeat : okYH zL_repeat 4 := ⟨by decide, oYH_L_repeat, (tt1 0 rfl rfl), ⟨by decide, by decide⟩, by decide +kernel⟩
theorem hp_repeat_ok {a b V : Int} {k n : Nat} {R : sT → (Nat → Nat) → Prop} (hV : R32 V) (h : Fn g zX5_repeat k n [.ref 0, iv a, iv b] σ l (fun o τ l' => o = .inl (some (iv V)) ∧ R τ l')) : Fn g zL_repeat k n [.ref 0, iv a, iv b, .ref 108] σ l (fun o ω l' => o = .inl (some (iv 0)) ∧ ∃ τ, R τ l' ∧ ω = up τ 108 0 V) := by
  refine Rn.ofH [some (.ref 0), some (iv a), some (iv b), some (.ref 108), none] (by decide) (by decide) (Nat.le_of_ble_eq_true rfl) rfl ?_
  refine g_aload3 dL_repeat_0 ?_
  refine g_iconst dL_repeat_1 ?_
  refine g_aload0 dL_repeat_2 ?_
  refine g_iload1 dL_repeat_3 ?_
  refine g_iload2 dL_repeat_4 ?_
  refine f_cV2q (h) rfl (by decide) rfl oY_X5_repeat oI_X5_repeat lk_L_104 rfl dL_repeat_5 (Nat.le_refl _) (Nat.le_refl _) rfl (Or.inl rfl) (fun σ5 l5 h5 => ?_)
  refine g_i2l hV dL_repeat_8 ?_
  refine f_last rfl (by decide) ⟨by omega, by show _ < ((1 : Nat) : Int); omega⟩ dL_repeat_9 ?_
  refine g_goto (tgt := 21) dL_repeat_10 rfl ?_
  refine g_iconst dL_repeat_21 ?_
  refine g_iretI rfl dL_repeat_22 ?_
  exact fn_ret ⟨rfl, σ5, h5, rfl⟩
theorem hp_repeat_t1 {a b : Int} (h : Ft g zX5_repeat [.ref 0, iv a, iv b] σ l 1) : Fn g zL_repeat 1 6 [.ref 0, iv a, iv b, .ref 108] σ l (fun o ω l' => o = .inl (some (iv 1)) ∧ ω = σ ∧ l' = l) := by
  refine Rn.ofH [some (.ref 0), some (iv a), some (iv b), some (.ref 108), none] (by decide) (by decide) (Nat.le_of_ble_eq_true rfl) rfl ?_
  refine g_aload3 dL_repeat_0 ?_
  refine g_iconst dL_repeat_1 ?_
  refine g_aload0 dL_repeat_2 ?_
  refine g_iload1 dL_repeat_3 ?_
  refine g_iload2 dL_repeat_4 ?_
  refine f_callVH (w := 2) (As := [iv a, iv b]) (e := 1) (hpc := 13) h rfl (by decide) rfl oY_X5_repeat oI_X5_repeat lk_L_104 rfl dL_repeat_5 (by decide) (by decide) rfl ⟨[], (0, 10, 13, 19), [(0, 10, 17, 13)], rfl, rfl, rfl, by decide, cl_IOB, ct_IOB, fun z hz => by cases hz⟩ (Or.inr ⟨4, dL_repeat_13, by decide, rfl⟩) ?_
  refine g_iconst dL_repeat_15 ?_
  refine g_iretI rfl dL_repeat_16 ?_
  exact fn_ret ⟨rfl, rfl, rfl⟩
theorem hp_repeat_t2 {a b : Int} (h : Ft g zX5_repeat [.ref 0, iv a, iv b] σ l 0) : Fn g zL_repeat 1 6 [.ref 0, iv a, iv b, .ref 108] σ l (fun o ω l' => o = .inl (some (iv 2)) ∧ ω = σ ∧ l' = l) := by
  refine Rn.ofH [some (.ref 0), some (iv a), some (iv b), some (.ref 108), none] (by decide) (by decide) (Nat.le_of_ble_eq_true rfl) rfl ?_
  refine g_aload3 dL_repeat_0 ?_
  refine g_iconst dL_repeat_1 ?_
  refine g_aload0 dL_repeat_2 ?_
  refine g_iload1 dL_repeat_3 ?_
  refine g_iload2 dL_repeat_4 ?_
  refine f_callVH (w := 2) (As := [iv a, iv b]) (e := 0) (hpc := 17) h rfl (by decide) rfl oY_X5_repeat oI_X5_repeat lk_L_104 rfl dL_repeat_5 (by decide) (by decide) rfl ⟨[(0, 10, 13, 19)], (0, 10, 17, 13), [], rfl, rfl, rfl, by decide, cl_IAE, ct_IAE, fun z hz => by
        rcases List.mem_cons.mp hz with rfl | h9
        · exact ⟨rfl, by decide, cl_IOB⟩
        · cases h9⟩ (Or.inr ⟨4, dL_repeat_17, by decide, rfl⟩) ?_
  refine g_iconst dL_repeat_19 ?_
  refine g_iretI rfl dL_repeat_20 ?_
  exact fn_ret ⟨rfl, rfl, rfl⟩
theorem oYX_L_higher : okYH zL_higher 3 := ⟨by decide, oYH_L_higher, (tt1 0 rfl rfl), ⟨by decide, by decide⟩, by decide +kernel⟩
theorem hp_higher_ok {a V : Int} {k n : Nat} {R : sT → (Nat → Nat) → Prop} (hV : R32 V) (h : Fn g zX5_higher k n [.ref 0, iv a] σ l (fun o τ l' => o = .inl (some (iv V)) ∧ R τ l')) : Fn g zL_higher k n [.ref 0, iv a, .ref 108] σ l (fun o ω l' => o = .inl (some (iv 0)) ∧ ∃ τ, R τ l' ∧ ω = up τ 108 0 V) := by
  refine Rn.ofH [some (.ref 0), some (iv a), some (.ref 108), none] (by decide) (by decide) (Nat.le_of_ble_eq_true rfl) rfl ?_
  refine g_aload2 dL_higher_0 ?_
  refine g_iconst dL_higher_1 ?_
  refine g_aload0 dL_higher_2 ?_
  refine g_iload1 dL_higher_3 ?_
  refine f_cV1q (h) rfl (by decide) rfl oY_X5_higher oI_X5_higher lk_L_107 rfl dL_higher_4 (Nat.le_refl _) (Nat.le_refl _) rfl (Or.inl rfl) (fun σ4 l4 h4 => ?_)
  refine g_i2l hV dL_higher_7 ?_
  refine f_last rfl (by decide) ⟨by omega, by show _ < ((1 : Nat) : Int); omega⟩ dL_higher_8 ?_
  refine g_goto (tgt := 15) dL_higher_9 rfl ?_
  refine g_iconst dL_higher_15 ?_
  refine g_iretI rfl dL_higher_16 ?_
  exact fn_ret ⟨rfl, σ4, h4, rfl⟩
theorem hp_higher_t1 {a : Int} (h : Ft g zX5_higher [.ref 0, iv a] σ l 0) : Fn g zL_higher 1 6 [.ref 0, iv a, .ref 108] σ l (fun o ω l' => o = .inl (some (iv 1)) ∧ ω = σ ∧ l' = l) := by
  refine Rn.ofH [some (.ref 0), some (iv a), some (.ref 108), none] (by decide) (by decide) (Nat.le_of_ble_eq_true rfl) rfl ?_
  refine g_aload2 dL_higher_0 ?_
  refine g_iconst dL_higher_1 ?_
  refine g_aload0 dL_higher_2 ?_
  refine g_iload1 dL_higher_3 ?_
  refine f_callVH (w := 1) (As := [iv a]) (e := 0) (hpc := 12) h rfl (by decide) rfl oY_X5_higher oI_X5_higher lk_L_107 rfl dL_higher_4 (by decide) (by decide) rfl ⟨[], (0, 9, 12, 13), [], rfl, rfl, rfl, by decide, cl_IAE, ct_IAE, fun z hz => by cases hz⟩ (Or.inl ⟨3, dL_higher_12, by decide, rfl⟩) ?_
  refine g_iconst dL_higher_13 ?_
  refine g_iretI rfl dL_higher_14 ?_
  exact fn_ret ⟨rfl, rfl, rfl⟩
theorem oYX_L_cover : okYH zL_cover 4 := ⟨by decide, oYH_L_cover, (tt1 0 rfl rfl), ⟨by decide, by decide⟩, by decide +kernel⟩
theorem hp_cover_ok {a b V : Int} {k n : Nat} {R : sT → (Nat → Nat) → Prop} (hV : R32 V) (h : Fn g zX5_cover k n [.ref 0, iv a, iv b] σ l (fun o τ l' => o = .inl (some (iv V)) ∧ R τ l')) : Fn g zL_cover k n [.ref 0, iv a, iv b, .ref 108] σ l (fun o ω l' => o = .inl (some (iv 0)) ∧ ∃ τ, R τ l' ∧ ω = up τ 108 0 V) := by
  refine Rn.ofH [some (.ref 0), some (iv a), some (iv b), some (.ref 108), none] (by decide) (by decide) (Nat.le_of_ble_eq_true rfl) rfl ?_
  refine g_aload3 dL_cover_0 ?_
  refine g_iconst dL_cover_1 ?_
  refine g_aload0 dL_cover_2 ?_
  refine g_iload1 dL_cover_3 ?_
  refine g_iload2 dL_cover_4 ?_
  refine f_cV2q (h) rfl (by decide) rfl oY_X5_cover oI_X5_cover lk_L_110 rfl dL_cover_5 (Nat.le_refl _) (Nat.le_refl _) rfl (okFb_of rfl) (fun σ5 l5 h5 => ?_)
  refine g_i2l hV dL_cover_8 ?_
  refine f_last rfl (by decide) ⟨by omega, by show _ < ((1 : Nat) : Int); omega⟩ dL_cover_9 ?_
  refine g_goto (tgt := 21) dL_cover_10 rfl ?_
  refine g_iconst dL_cover_21 ?_
  refine g_iretI rfl dL_cover_22 ?_
  exact fn_ret ⟨rfl, σ5, h5, rfl⟩
theorem hp_cover_t1 {a b : Int} (h : Ft g zX5_cover [.ref 0, iv a, iv b] σ l 1) : Fn g zL_cover 1 6 [.ref 0, iv a, iv b, .ref 108] σ l (fun o ω l' => o = .inl (some (iv 1)) ∧ ω = σ ∧ l' = l) := by
  refine Rn.ofH [some (.ref 0), some (iv a), some (iv b), some (.ref 108), none] (by decide) (by decide) (Nat.le_of_ble_eq_true rfl) rfl ?_
  refine g_aload3 dL_cover_0 ?_
  refine g_iconst dL_cover_1 ?_
  refine g_aload0 dL_cover_2 ?_
  refine g_iload1 dL_cover_3 ?_
  refine g_iload2 dL_cover_4 ?_
  refine f_callVH (w := 2) (As := [iv a, iv b]) (e := 1) (hpc := 13) h rfl (by decide) rfl oY_X5_cover oI_X5_cover lk_L_110 rfl dL_cover_5 (by decide) (by decide) rfl ⟨[], (0, 10, 13, 19), [(0, 10, 17, 13)], rfl, rfl, rfl, by decide, cl_IOB, ct_IOB, fun z hz => by cases hz⟩ (Or.inr ⟨4, dL_cover_13, by decide, rfl⟩) ?_
  refine g_iconst dL_cover_15 ?_
  refine g_iretI rfl dL_cover_16 ?_
  exact fn_ret ⟨rfl, rfl, rfl⟩
theorem hp_cover_t2 {a b : Int} (h : Ft g zX5_cover [.ref 0, iv a, iv b] σ l 0) : Fn g zL_cover 1 6 [.ref 0, iv a, iv b, .ref 108] σ l (fun o ω l' => o = .inl (some (iv 2)) ∧ ω = σ ∧ l' = l) := by
  refine Rn.ofH [some (.ref 0), some (iv a), some (iv b), some (.ref 108), none] (by decide) (by decide) (Nat.le_of_ble_eq_true rfl) rfl ?_
  refine g_aload3 dL_cover_0 ?_
  refine g_iconst dL_cover_1 ?_
  refine g_aload0 dL_cover_2 ?_
  refine g_iload1 dL_cover_3 ?_
  refine g_iload2 dL_cover_4 ?_
  refine f_callVH (w := 2) (As := [iv a, iv b]) (e := 0) (hpc := 17) h rfl (by decide) rfl oY_X5_cover oI_X5_cover lk_L_110 rfl dL_cover_5 (by decide) (by decide) rfl ⟨[(0, 10, 13, 19)], (0, 10, 17, 13), [], rfl, rfl, rfl, by decide, cl_IAE, ct_IAE, fun z hz => by
        rcases List.mem_cons.mp hz with rfl | h9
        · exact ⟨rfl, by decide, cl_IOB⟩
        · cases h9⟩ (Or.inr ⟨4, dL_cover_17, by decide, rfl⟩) ?_
  refine g_iconst dL_cover_19 ?_
  refine g_iretI rfl dL_cover_20 ?_
  exact fn_ret ⟨rfl, rfl, rfl⟩
theorem oYX_L_rewind : okYH zL_rewind 3 := ⟨by decide, oYH_L_rewind, (tt1 0 rfl rfl), ⟨by decide, by decide⟩, by decide +kernel⟩
theorem hp_rewind_ok {a V : Int} {k n : Nat} {R : sT → (Nat → Nat) → Prop} (hV : R32 V) (h : Fn g zX5_rewind k n [.ref 0, iv a] σ l (fun o τ l' => o = .inl (some (iv V)) ∧ R τ l')) : Fn g zL_rewind k n [.ref 0, iv a, .ref 108] σ l (fun o ω l' => o = .inl (some (iv 0)) ∧ ∃ τ, R τ l' ∧ ω = up τ 108 0 V) := by
  refine Rn.ofH [some (.ref 0), some (iv a), some (.ref 108), none] (by decide) (by decide) (Nat.le_of_ble_eq_true rfl) rfl ?_
  refine g_aload2 dL_rewind_0 ?_
  refine g_iconst dL_rewind_1 ?_
  refine g_aload0 dL_rewind_2 ?_
  refine g_iload1 dL_rewind_3 ?_
  refine f_cV1q (h) rfl (by decide) rfl oY_X5_rewind oI_X5_rewind lk_L_113 rfl dL_rewind_4 (Nat.le_refl _) (Nat.le_refl _) rfl (Or.inl rfl) (fun σ4 l4 h4 => ?_)
  refine g_i2l hV dL_rewind_7 ?_
  refine f_last rfl (by decide) ⟨by omega, by show _ < ((1 : Nat) : Int); omega⟩ dL_rewind_8 ?_
  refine g_goto (tgt := 15) dL_rewind_9 rfl ?_
  refine g_iconst dL_rewind_15 ?_
  refine g_iretI rfl dL_rewind_16 ?_
  exact fn_ret ⟨rfl, σ4, h4, rfl⟩
theorem hp_rewind_t1 {a : Int} (h : Ft g zX5_rewind [.ref 0, iv a] σ l 1) : Fn g zL_rewind 1 6 [.ref 0, iv a, .ref 108] σ l (fun o ω l' => o = .inl (some (iv 1)) ∧ ω = σ ∧ l' = l) := by
  refine Rn.ofH [some (.ref 0), some (iv a), some (.ref 108), none] (by decide) (by decide) (Nat.le_of_ble_eq_true rfl) rfl ?_
  refine g_aload2 dL_rewind_0 ?_
  refine g_iconst dL_rewind_1 ?_
  refine g_aload0 dL_rewind_2 ?_
  refine g_iload1 dL_rewind_3 ?_
  refine f_callVH (w := 1) (As := [iv a]) (e := 1) (hpc := 12) h rfl (by decide) rfl oY_X5_rewind oI_X5_rewind lk_L_113 rfl dL_rewind_4 (by decide) (by decide) rfl ⟨[], (0, 9, 12, 19), [], rfl, rfl, rfl, by decide, cl_IOB, ct_IOB, fun z hz => by cases hz⟩ (Or.inl ⟨3, dL_rewind_12, by decide, rfl⟩) ?_
  refine g_iconst dL_rewind_13 ?_
  refine g_iretI rfl dL_rewind_14 ?_
  exact fn_ret ⟨rfl, rfl, rfl⟩
theorem oYX_L_fingering : okYH zL_fingering 3 := ⟨by decide, oYH_L_fingering, (tt1 0 rfl rfl), ⟨by decide, by decide⟩, by decide +kernel⟩
theorem hp_fingering_ok {a : Int} {V : UInt32} {k n : Nat} {R : sT → (Nat → Nat) → Prop} (hN : vf_n64 (FP.f2d V)) (h : Fn g zX5_fingering k n [.ref 0, iv a] σ l (fun o τ l' => o = .inl (some (.float V)) ∧ R τ l')) : Fn g zL_fingering k n [.ref 0, iv a, .ref 109] σ l (fun o ω l' => o = .inl (some (iv 0)) ∧ ∃ τ, R τ l' ∧ ω = up τ 109 0 ((FP.f2d V).toNat : Int)) := by
  refine Rn.ofH [some (.ref 0), some (iv a), some (.ref 109), none] (by decide) (by decide) (Nat.le_of_ble_eq_true rfl) rfl ?_
  refine g_aload2 dL_fingering_0 ?_
  refine g_iconst dL_fingering_1 ?_
  refine g_aload0 dL_fingering_2 ?_
  refine g_iload1 dL_fingering_3 ?_
  refine f_cV1q (h) rfl (by decide) rfl oY_X5_fingering oI_X5_fingering lk_L_116 rfl dL_fingering_4 (Nat.le_refl _) (Nat.le_refl _) rfl (okFb_of rfl) (fun σ4 l4 h4 => ?_)
  refine g_f2d hN dL_fingering_7 ?_
  refine f_dast rfl (by decide) ⟨by omega, by show _ < ((1 : Nat) : Int); omega⟩ dL_fingering_8 ?_
  refine g_goto (tgt := 15) dL_fingering_9 rfl ?_
  refine g_iconst dL_fingering_15 ?_
  refine g_iretI rfl dL_fingering_16 ?_
  exact fn_ret ⟨rfl, σ4, h4, rfl⟩
theorem hp_fingering_t1 {a : Int} (h : Ft g zX5_fingering [.ref 0, iv a] σ l 0) : Fn g zL_fingering 1 6 [.ref 0, iv a, .ref 109] σ l (fun o ω l' => o = .inl (some (iv 1)) ∧ ω = σ ∧ l' = l) := by
  refine Rn.ofH [some (.ref 0), some (iv a), some (.ref 109), none] (by decide) (by decide) (Nat.le_of_ble_eq_true rfl) rfl ?_
  refine g_aload2 dL_fingering_0 ?_
  refine g_iconst dL_fingering_1 ?_
  refine g_aload0 dL_fingering_2 ?_
  refine g_iload1 dL_fingering_3 ?_
  refine f_callVH (w := 1) (As := [iv a]) (e := 0) (hpc := 12) h rfl (by decide) rfl oY_X5_fingering oI_X5_fingering lk_L_116 rfl dL_fingering_4 (by decide) (by decide) rfl ⟨[], (0, 9, 12, 13), [], rfl, rfl, rfl, by decide, cl_IAE, ct_IAE, fun z hz => by cases hz⟩ (Or.inl ⟨3, dL_fingering_12, by decide, rfl⟩) ?_
  refine g_iconst dL_fingering_13 ?_
  refine g_iretI rfl dL_fingering_14 ?_
  exact fn_ret ⟨rfl, rfl, rfl⟩
theorem oYX_L_writePlay : okYH zL_writePlay 3 := ⟨by decide, oYH_L_writePlay, (tt1 0 rfl rfl), ⟨by decide, by decide⟩, by decide +kernel⟩
theorem hp_writePlay_ok {a V : Int} {k n : Nat} {R : sT → (Nat → Nat) → Prop} (hV : R32 V) (h : Fn g zX5_writePlay k n [.ref 0, iv a] σ l (fun o τ l' => o = .inl (some (iv V)) ∧ R τ l')) : Fn g zL_writePlay k n [.ref 0, iv a, .ref 108] σ l (fun o ω l' => o = .inl (some (iv 0)) ∧ ∃ τ, R τ l' ∧ ω = up τ 108 0 V) := by
  refine Rn.ofH [some (.ref 0), some (iv a), some (.ref 108), none] (by decide) (by decide) (Nat.le_of_ble_eq_true rfl) rfl ?_
  refine g_aload2 dL_writePlay_0 ?_
  refine g_iconst dL_writePlay_1 ?_
  refine g_aload0 dL_writePlay_2 ?_
  refine g_iload1 dL_writePlay_3 ?_
  refine f_cV1q (h) rfl (by decide) rfl oY_X5_writePlay oI_X5_writePlay lk_L_120 rfl dL_writePlay_4 (Nat.le_refl _) (Nat.le_refl _) rfl (Or.inl rfl) (fun σ4 l4 h4 => ?_)
  refine g_i2l hV dL_writePlay_7 ?_
  refine f_last rfl (by decide) ⟨by omega, by show _ < ((1 : Nat) : Int); omega⟩ dL_writePlay_8 ?_
  refine g_goto (tgt := 15) dL_writePlay_9 rfl ?_
  refine g_iconst dL_writePlay_15 ?_
  refine g_iretI rfl dL_writePlay_16 ?_
  exact fn_ret ⟨rfl, σ4, h4, rfl⟩
theorem hp_writePlay_t1 {a : Int} (h : Ft g zX5_writePlay [.ref 0, iv a] σ l 1) : Fn g zL_writePlay 1 6 [.ref 0, iv a, .ref 108] σ l (fun o ω l' => o = .inl (some (iv 1)) ∧ ω = σ ∧ l' = l) := by
  refine Rn.ofH [some (.ref 0), some (iv a), some (.ref 108), none] (by decide) (by decide) (Nat.le_of_ble_eq_true rfl) rfl ?_
  refine g_aload2 dL_writePlay_0 ?_
  refine g_iconst dL_writePlay_1 ?_
  refine g_aload0 dL_writePlay_2 ?_
  refine g_iload1 dL_writePlay_3 ?_
  refine f_callVH (w := 1) (As := [iv a]) (e := 1) (hpc := 12) h rfl (by decide) rfl oY_X5_writePlay oI_X5_writePlay lk_L_120 rfl dL_writePlay_4 (by decide) (by decide) rfl ⟨[], (0, 9, 12, 19), [], rfl, rfl, rfl, by decide, cl_IOB, ct_IOB, fun z hz => by cases hz⟩ (Or.inl ⟨3, dL_writePlay_12, by decide, rfl⟩) ?_
  refine g_iconst dL_writePlay_13 ?_
  refine g_iretI rfl dL_writePlay_14 ?_
  exact fn_ret ⟨rfl, rfl, rfl⟩
theorem oYX_L_saveSnapshot : okYH zL_saveSnapshot 3 := ⟨by decide, oYH_L_saveSnapshot, (tt1 0 rfl rfl), ⟨by decide, by decide⟩, by decide +kernel⟩
theorem hp_saveSnapshot_ok {a V : Int} {k n : Nat} {R : sT → (Nat → Nat) → Prop} (hV : R32 V) (h : Fn g zX5_saveSnapshot k n [.ref 0, iv a] σ l (fun o τ l' => o = .inl (some (iv V)) ∧ R τ l')) : Fn g zL_saveSnapshot k n [.ref 0, iv a, .ref 108] σ l (fun o ω l' => o = .inl (some (iv 0)) ∧ ∃ τ, R τ l' ∧ ω = up τ 108 0 V) := by
  refine Rn.ofH [some (.ref 0), some (iv a), some (.ref 108), none] (by decide) (by decide) (Nat.le_of_ble_eq_true rfl) rfl ?_
  refine g_aload2 dL_saveSnapshot_0 ?_
  refine g_iconst dL_saveSnapshot_1 ?_
  refine g_aload0 dL_saveSnapshot_2 ?_
  refine g_iload1 dL_saveSnapshot_3 ?_
  refine f_cV1q (h) rfl (by decide) rfl oY_X5_saveSnapshot oI_X5_saveSnapshot lk_L_123 rfl dL_saveSnapshot_4 (Nat.le_refl _) (Nat.le_refl _) rfl (Or.inl rfl) (fun σ4 l4 h4 => ?_)
  refine g_i2l hV dL_saveSnapshot_7 ?_
  refine f_last rfl (by decide) ⟨by omega, by show _ < ((1 : Nat) : Int); omega⟩ dL_saveSnapshot_8 ?_
  refine g_goto (tgt := 15) dL_saveSnapshot_9 rfl ?_
  refine g_iconst dL_saveSnapshot_15 ?_
  refine g_iretI rfl dL_saveSnapshot_16 ?_
  exact fn_ret ⟨rfl, σ4, h4, rfl⟩
theorem hp_saveSnapshot_t1 {a : Int} (h : Ft g zX5_saveSnapshot [.ref 0, iv a] σ l 0) : Fn g zL_saveSnapshot 1 6 [.ref 0, iv a, .ref 108] σ l (fun o ω l' => o = .inl (some (iv 1)) ∧ ω = σ ∧ l' = l) := by
  refine Rn.ofH [some (.ref 0), some (iv a), some (.ref 108), none] (by decide) (by decide) (Nat.le_of_ble_eq_true rfl) rfl ?_
  refine g_aload2 dL_saveSnapshot_0 ?_
  refine g_iconst dL_saveSnapshot_1 ?_
  refine g_aload0 dL_saveSnapshot_2 ?_
  refine g_iload1 dL_saveSnapshot_3 ?_
  refine f_callVH (w := 1) (As := [iv a]) (e := 0) (hpc := 12) h rfl (by decide) rfl oY_X5_saveSnapshot oI_X5_saveSnapshot lk_L_123 rfl dL_saveSnapshot_4 (by decide) (by decide) rfl ⟨[], (0, 9, 12, 13), [], rfl, rfl, rfl, by decide, cl_IAE, ct_IAE, fun z hz => by cases hz⟩ (Or.inl ⟨3, dL_saveSnapshot_12, by decide, rfl⟩) ?_
  refine g_iconst dL_saveSnapshot_13 ?_
  refine g_iretI rfl dL_saveSnapshot_14 ?_
  exact fn_ret ⟨rfl, rfl, rfl⟩
theorem oYX_L_restoreSnapshot : okYH zL_restoreSnapshot 3 := ⟨by decide, oYH_L_restoreSnapshot, (tt1 0 rfl rfl), ⟨by decide, by decide⟩, by decide +kernel⟩
theorem hp_restoreSnapshot_ok {a V : Int} {k n : Nat} {R : sT → (Nat → Nat) → Prop} (hV : R32 V) (h : Fn g zX5_restoreSnapshot k n [.ref 0, iv a] σ l (fun o τ l' => o = .inl (some (iv V)) ∧ R τ l')) : Fn g zL_restoreSnapshot k n [.ref 0, iv a, .ref 108] σ l (fun o ω l' => o = .inl (some (iv 0)) ∧ ∃ τ, R τ l' ∧ ω = up τ 108 0 V) := by
  refine Rn.ofH [some (.ref 0), some (iv a), some (.ref 108), none] (by decide) (by decide) (Nat.le_of_ble_eq_true rfl) rfl ?_
  refine g_aload2 dL_restoreSnapshot_0 ?_
  refine g_iconst dL_restoreSnapshot_1 ?_
  refine g_aload0 dL_restoreSnapshot_2 ?_
  refine g_iload1 dL_restoreSnapshot_3 ?_
  refine f_cV1q (h) rfl (by decide) rfl oY_X5_restoreSnapshot oI_X5_restoreSnapshot lk_L_126 rfl dL_restoreSnapshot_4 (Nat.le_refl _) (Nat.le_refl _) rfl (Or.inl rfl) (fun σ4 l4 h4 => ?_)
  refine g_i2l hV dL_restoreSnapshot_7 ?_
  refine f_last rfl (by decide) ⟨by omega, by show _ < ((1 : Nat) : Int); omega⟩ dL_restoreSnapshot_8 ?_
  refine g_goto (tgt := 15) dL_restoreSnapshot_9 rfl ?_
  refine g_iconst dL_restoreSnapshot_15 ?_
  refine g_iretI rfl dL_restoreSnapshot_16 ?_
  exact fn_ret ⟨rfl, σ4, h4, rfl⟩
theorem hp_restoreSnapshot_t1 {a : Int} (h : Ft g zX5_restoreSnapshot [.ref 0, iv a] σ l 0) : Fn g zL_restoreSnapshot 1 6 [.ref 0, iv a, .ref 108] σ l (fun o ω l' => o = .inl (some (iv 1)) ∧ ω = σ ∧ l' = l) := by
  refine Rn.ofH [some (.ref 0), some (iv a), some (.ref 108), none] (by decide) (by decide) (Nat.le_of_ble_eq_true rfl) rfl ?_
  refine g_aload2 dL_restoreSnapshot_0 ?_
  refine g_iconst dL_restoreSnapshot_1 ?_
  refine g_aload0 dL_restoreSnapshot_2 ?_
  refine g_iload1 dL_restoreSnapshot_3 ?_
  refine f_callVH (w := 1) (As := [iv a]) (e := 0) (hpc := 12) h rfl (by decide) rfl oY_X5_restoreSnapshot oI_X5_restoreSnapshot lk_L_126 rfl dL_restoreSnapshot_4 (by decide) (by decide) rfl ⟨[], (0, 9, 12, 13), [], rfl, rfl, rfl, by decide, cl_IAE, ct_IAE, fun z hz => by cases hz⟩ (Or.inl ⟨3, dL_restoreSnapshot_12, by decide, rfl⟩) ?_
  refine g_iconst dL_restoreSnapshot_13 ?_
  refine g_iretI rfl dL_restoreSnapshot_14 ?_
  exact fn_ret ⟨rfl, rfl, rfl⟩
end C92
