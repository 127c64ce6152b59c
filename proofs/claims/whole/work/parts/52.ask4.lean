/-! HoleWhistle's questions: moved, idle, mean cost, fingering -/
section C52
variable {g : gT} {σ : sT} {l : Nat → Nat}
theorem dg_ne {a b : Int} (ha : 0 ≤ a ∧ a ≤ 2) (hb : 0 ≤ b ∧ b ≤ 2) : ((decide (a = 1) ^^ decide (b = 1)) || (decide (a = 2) ^^ decide (b = 2))) = decide (a ≠ b) := by
  have h1 : a = 0 ∨ a = 1 ∨ a = 2 := by omega
  have h2 : b = 0 ∨ b = 1 ∨ b = 2 := by omega
  rcases h1 with rfl | rfl | rfl <;> rcases h2 with rfl | rfl | rfl <;> decide
theorem df_bit (p q : Int) {h : Nat} (hh : h < 7) (c : Int) : (dfH (cdP c p) (cdP c q)).testBit h = decide (dgt (fgF c p) h ≠ dgt (fgF c q) h) := by
  rw [tb_dfH _ _ _ hh, cdP_lo _ _ _ (by omega), cdP_lo _ _ _ (by omega), cdP_lo _ _ _ (by omega), cdP_lo _ _ _ (by omega)]
  unfold dgt
  have hk : h = 0 ∨ h = 1 ∨ h = 2 ∨ h = 3 ∨ h = 4 ∨ h = 5 ∨ h = 6 := by omega
  rcases hk with rfl | rfl | rfl | rfl | rfl | rfl | rfl
  · rw [tbL0, tbL0, show (cdN (fgF c p)).testBit (0 + 7) = decide (fgF c p % 3 = 2) from tbH0 _, show (cdN (fgF c q)).testBit (0 + 7) = decide (fgF c q % 3 = 2) from tbH0 _, show ((3 ^ 0 : Nat) : Int) = 1 from rfl, Int.ediv_one, Int.ediv_one]
    exact dg_ne (dg_rng _) (dg_rng _)
  · rw [tbL1, tbL1, show (cdN (fgF c p)).testBit (1 + 7) = decide (fgF c p / 3 % 3 = 2) from tbH1 _, show (cdN (fgF c q)).testBit (1 + 7) = decide (fgF c q / 3 % 3 = 2) from tbH1 _, show ((3 ^ 1 : Nat) : Int) = 3 from rfl]
    exact dg_ne (dg_rng _) (dg_rng _)
  · rw [tbL2, tbL2, show (cdN (fgF c p)).testBit (2 + 7) = decide (fgF c p / 9 % 3 = 2) from tbH2 _, show (cdN (fgF c q)).testBit (2 + 7) = decide (fgF c q / 9 % 3 = 2) from tbH2 _, show ((3 ^ 2 : Nat) : Int) = 9 from rfl]
    exact dg_ne (dg_rng _) (dg_rng _)
  · rw [tbL3, tbL3, show (cdN (fgF c p)).testBit (3 + 7) = decide (fgF c p / 27 % 3 = 2) from tbH3 _, show (cdN (fgF c q)).testBit (3 + 7) = decide (fgF c q / 27 % 3 = 2) from tbH3 _, show ((3 ^ 3 : Nat) : Int) = 27 from rfl]
    exact dg_ne (dg_rng _) (dg_rng _)
  · rw [tbL4, tbL4, show (cdN (fgF c p)).testBit (4 + 7) = decide (fgF c p / 81 % 3 = 2) from tbH4 _, show (cdN (fgF c q)).testBit (4 + 7) = decide (fgF c q / 81 % 3 = 2) from tbH4 _, show ((3 ^ 4 : Nat) : Int) = 81 from rfl]
    exact dg_ne (dg_rng _) (dg_rng _)
  · rw [tbL5, tbL5, show (cdN (fgF c p)).testBit (5 + 7) = decide (fgF c p / 243 % 3 = 2) from tbH5 _, show (cdN (fgF c q)).testBit (5 + 7) = decide (fgF c q / 243 % 3 = 2) from tbH5 _, show ((3 ^ 5 : Nat) : Int) = 243 from rfl]
    exact dg_ne (dg_rng _) (dg_rng _)
  · rw [tbL6, tbL6, show (cdN (fgF c p)).testBit (6 + 7) = decide (fgF c p / 729 % 3 = 2) from tbH6 _, show (cdN (fgF c q)).testBit (6 + 7) = decide (fgF c q / 729 % 3 = 2) from tbH6 _, show ((3 ^ 6 : Nat) : Int) = 729 from rfl]
    exact dg_ne (dg_rng _) (dg_rng _)
theorem dgt_fg {H k : Nat} (hk : k < H) (p : Int) : dgt (fgF ((3 ^ H : Nat) : Int) p) k = dgt p k := by
  unfold fgF
  split
  · rfl
  · have h := dgt_add (p := p) (x := -1) hk
    rw [show p + ((3 ^ H : Nat) : Int) * -1 = p - ((3 ^ H : Nat) : Int) from by omega] at h
    exact h
theorem df_and (p q : Int) {h H : Nat} (hh : h < H) (hH : H ≤ 7) : ((dfH (cdP ((3 ^ H : Nat) : Int) p) (cdP ((3 ^ H : Nat) : Int) q) / 2 ^ h) &&& 1 : Nat) = if dgt p h ≠ dgt q h then 1 else 0 := by
  have e := df_bit p q (h := h) (by omega) ((3 ^ H : Nat) : Int)
  rw [dgt_fg hh, dgt_fg hh, Nat.testBit_eq_decide_div_mod_eq] at e
  rw [Nat.and_one_is_mod]
  have := of_decide_eq_true (p := (dfH (cdP ((3 ^ H : Nat) : Int) p) (cdP ((3 ^ H : Nat) : Int) q) / 2 ^ h % 2 = 1) ↔ dgt p h ≠ dgt q h) (by simpa using e)
  by_cases c : dgt p h ≠ dgt q h
  · rw [if_pos c]; exact this.2 c
  · rw [if_neg c]
    have h2 := mt this.1 c
    omega
/-- how many changes of the way move a hole -/
def wMv (s : Int → Int) (h : Nat) : Nat → Int
  | 0 => 0
  | k + 1 => wMv s h k + (if wWp s k ≠ -1 ∧ wWp s (k + 1) ≠ -1 ∧ dgt (wWp s k) h ≠ dgt (wWp s (k + 1)) h then 1 else 0)
theorem wMv_s (s : Int → Int) (h k : Nat) : wMv s h (k + 1) = wMv s h k + (if wWp s k ≠ -1 ∧ wWp s (k + 1) ≠ -1 ∧ dgt (wWp s k) h ≠ dgt (wWp s (k + 1)) h then 1 else 0) := rfl
theorem wMv_rng (s : Int → Int) (h n : Nat) : 0 ≤ wMv s h n ∧ wMv s h n ≤ n := by
  induction n with
  | zero => exact ⟨Int.le_refl _, Int.le_refl _⟩
  | succ n ih => unfold wMv; split <;> omega
theorem cdZ_v {c p : Int} (h : p ≠ -1) : cdZ c p = (cdP c p : Int) := if_neg h
theorem cdZ_R (c p : Int) : R32 (cdZ c p) := by
  have h := cdZ_ok c p
  unfold okCd at h
  exact ⟨by omega, by omega⟩
theorem cdZ_n {c p : Int} (h : cdZ c p ≠ -1) : p ≠ -1 := fun z => h (if_pos z)
theorem moved_ok {B : Int} {s : Int → Int} (hK : Kc σ l B s) {h : Nat} (hh : h < wH s) : Fq g zX5_moved [.ref 0, iv (h : Int)] σ l B s (iv (if wTot s = -1 then -1 else wMv s h (wN s))) := by
  have ho := hK.ok
  have hc := hK.st
  have hp := p3_le ho.h7
  have hp0 := p3_pos (wH s)
  have hNn : 2 * 3 ^ wH s ≤ 4374 := by omega
  have hNe : ((2 * 3 ^ wH s : Nat) : Int) = 2 * ((3 ^ wH s : Nat) : Int) := by push_cast; rfl
  have hn40 := ho.n40
  obtain ⟨L, hL, hF⟩ := freshen_ok (g := g) (lev := 3) hK ⟨by decide, by decide⟩
  refine ⟨L, hL, Fn.of [some (.ref 0), some (iv (h : Int)), none, none, none] rfl (by decide) (Nat.le_of_ble_eq_true rfl) rfl ?_⟩
  refine g_aload0 dX5_moved_0 ?_
  refine g_iload1 dX5_moved_1 ?_
  refine f_cV1d (needHole_ok ho hc ⟨by omega, by have := ho.h7; omega⟩ ⟨by omega, by rw [ho.hI]; omega⟩) rfl (by decide) rfl oY_X5_needHole oI_X5_needHole lk_X5_157 rfl dX5_moved_2 rfl (Or.inl rfl) ?_
  refine g_aload0 dX5_moved_5 ?_
  refine g_iconst dX5_moved_6 ?_
  refine f_cV1m (hF) rfl (by decide) rfl oY_X5_freshen oI_X5_freshen lk_X5_178 rfl dX5_moved_7 (Nat.le_refl _) (Nat.le_refl _) rfl (okFb_of rfl) (fun σ7 l7 h7 => ?_)
  obtain ⟨hq, K1, hv, hL1⟩ := h7
  have c1 := K1.st
  obtain ⟨F1, F2⟩ := K1.ca.p1 (by omega)
  have hfc := K1.ca.fc
  have hrw : ∀ p, 0 ≤ p → p < 2 * ((3 ^ wH s : Nat) : Int) → 0 ≤ fgF ((3 ^ wH s : Nat) : Int) p ∧ fgF ((3 ^ wH s : Nat) : Int) p < ((3 ^ wH s : Nat) : Int) := fun p a0 a1 => fgF_rng a0 a1
  obtain ⟨hCh, G2⟩ := K1.ca.p2 (by omega)
  have hW := K1.ca.p3 (by omega)
  refine g_aload0 dX5_moved_10 ?_
  refine f_getr (r := 40) rfl (by decide) rfl rfl fl_X5_70 dX5_moved_11 ?_
  refine f_geti (J := 0) rfl (by decide) rfl rfl fl_X5_249 dX5_moved_14 ?_
  rw [way_0 hW]
  have hTr := wTot_rng ho
  refine g_iconst dX5_moved_17 ?_
  refine g_icmp_ne ⟨by omega, by omega⟩ ⟨by decide, by decide⟩ (tgt := 23) dX5_moved_18 rfl (fun h18 => ?_) (fun h18 => ?_)
  · have hz : ∀ r, r + 1 < wN s → σ7 42 (((r + 1 : Nat) : Int) - 1) = cdZ ((3 ^ wH s : Nat) : Int) (wWp s (r + 1)) ∧ σ7 42 ((r + 1 : Nat) : Int) = cdZ ((3 ^ wH s : Nat) : Int) (wWp s (r + 1 + 1)) := fun r hr => ⟨by rw [show ((r + 1 : Nat) : Int) - 1 = (r : Int) from by omega]; exact (way_k hW h18 r (by omega)).2, (way_k hW h18 (r + 1) hr).2⟩
    have loop : ∀ r, r ≤ wN s - 1 → ∀ (i x : Int) (u4 : Option Value), i = ((r + 1 : Nat) : Int) → x = wMv s h (r + 1) → FW g zX5_moved (pcL l - pcL L - (pcL l - pcL L)) (psL l - psL L - (psL l - psL L)) (fun o τ l' => o = .inl (some (iv (if wTot s = -1 then -1 else wMv s h (wN s)))) ∧ Qf σ τ ∧ Kc τ l' B s ∧ LE2 L l') 27 [some (.ref 0), some (iv (h : Int)), some (iv x), some (iv i), u4] [] σ7 l7 := by
      refine loopUp _ (fun r hr2 ih i x u4 hi hx => ?_)
      subst hi
      refine g_iload3 dX5_moved_27 ?_
      refine g_aload0 dX5_moved_28 ?_
      refine f_getr (r := 1) rfl (by decide) rfl rfl fl_X5_10 dX5_moved_29 ?_
      refine f_geti (J := 9) rfl (by decide) rfl rfl fl_X5_101 dX5_moved_32 ?_
      rw [c1.f9, ho.nI]
      refine g_icmp_ge ⟨by omega, by omega⟩ ⟨by omega, by omega⟩ (tgt := 93) dX5_moved_35 rfl (fun h35 => ?_) (fun h35 => ?_)
      · refine g_iload2 dX5_moved_93 ?_
        refine g_iretI rfl dX5_moved_94 ?_
        refine Fq.ret ?_ hq K1 hL1
        rw [if_neg h18, hx]
        by_cases c0 : r + 1 ≤ wN s
        · rw [show r + 1 = wN s from by omega]
        · rw [show wN s = 0 from by omega, show r = 0 from by omega]
          rfl
      · obtain ⟨z1, z2⟩ := hz r (by omega)
        have d1 := cdP_lt ((3 ^ wH s : Nat) : Int) (wWp s (r + 1))
        have d2 := cdP_lt ((3 ^ wH s : Nat) : Int) (wWp s (r + 1 + 1))
        refine g_aload0 dX5_moved_38 ?_
        refine f_getr (r := 40) rfl (by decide) rfl rfl fl_X5_70 dX5_moved_39 ?_
        refine g_iload3 dX5_moved_42 ?_
        refine f_cV1w (isChangeTo_ok isWy40 ⟨by omega, by omega⟩ (fun _ => by rw [z1]; unfold cdZ; split <;> constructor <;> omega) (by rw [z2]; unfold cdZ; split <;> constructor <;> omega)) rfl (by decide) rfl oY_X4_isChangeTo oI_X4_isChangeTo lk_X5_259 rfl dX5_moved_43 rfl (Or.inl rfl) ?_
        refine g_ifeqB (tgt := 87) dX5_moved_46 rfl (fun h46 => ?_) (fun h46 => ?_)
        · refine g_iinc3 dX5_moved_87 rfl (by decide) ?_
          refine g_goto (tgt := 27) dX5_moved_90 rfl ?_
          first
            | exact ih (by omega) _ _ _ (by push_cast; omega) (by rw [hx, wMv_s s h (r + 1), if_neg (fun w => h46 ⟨by omega, by rw [z1]; exact cdZ_ne w.1, by rw [z2]; exact cdZ_ne w.2.1⟩)]; omega)
            | refine ih (by omega) _ _ _ (by push_cast; omega) ?_
              rw [hx, wMv_s s h (r + 1)]
              by_cases c0 : dgt (wWp s (r + 1)) h ≠ dgt (wWp s (r + 1 + 1)) h
              · rw [if_pos c0, if_pos ⟨q1, q2, c0⟩]; rfl
              · rw [if_neg c0, if_neg (fun w => c0 w.2.2)]; rfl
        · have q1 : wWp s (r + 1) ≠ -1 := cdZ_n (by rw [← z1]; exact h46.2.1)
          have q2 : wWp s (r + 1 + 1) ≠ -1 := cdZ_n (by rw [← z2]; exact h46.2.2)
          refine g_aload0 dX5_moved_49 ?_
          refine f_getr (r := 40) rfl (by decide) rfl rfl fl_X5_70 dX5_moved_50 ?_
          refine f_getr (r := 42) rfl (by decide) rfl rfl fl_X5_263 dX5_moved_53 ?_
          refine g_iload3 dX5_moved_56 ?_
          refine g_iconst dX5_moved_57 ?_
          refine g_isub dX5_moved_58 ?_
          refine f_cS2w (atI rfl (by decide) (by omega) (by show ((r + 1 : Nat) : Int) - 1 < (40 : Nat); omega)) oY_X5_at oT_X5_at lk_X5_164 rfl dX5_moved_59 rfl (Or.inl rfl) ?_
          rw [z1, cdZ_v q1]
          refine g_aload0 dX5_moved_62 ?_
          refine f_getr (r := 40) rfl (by decide) rfl rfl fl_X5_70 dX5_moved_63 ?_
          refine f_getr (r := 42) rfl (by decide) rfl rfl fl_X5_263 dX5_moved_66 ?_
          refine g_iload3 dX5_moved_69 ?_
          refine f_cS2w (atI rfl (by decide) (by omega) (by show ((r + 1 : Nat) : Int) < (40 : Nat); omega)) oY_X5_at oT_X5_at lk_X5_164 rfl dX5_moved_70 rfl (Or.inl rfl) ?_
          rw [z2, cdZ_v q2]
          refine f_cS2w (differingHoles_ok (cdP_lt _ _) (cdP_lt _ _)) oY_X5_differingHoles oT_X5_differingHoles lk_X5_225 rfl dX5_moved_73 rfl (Or.inl rfl) ?_
          refine g_istore4 dX5_moved_76 rfl (by decide) ?_
          refine g_iload2 dX5_moved_78 ?_
          refine g_iload4 dX5_moved_79 ?_
          refine g_iload1 dX5_moved_81 ?_
          refine g_ishrN (by have := dfH_lt (cdP ((3 ^ wH s : Nat) : Int) (wWp s (r + 1))) (cdP ((3 ^ wH s : Nat) : Int) (wWp s (r + 1 + 1))); omega) (by have := ho.h7; omega) dX5_moved_82 ?_
          refine g_iconst dX5_moved_83 ?_
          refine g_iand (b := 1) dX5_moved_84 ?_
          rw [df_and _ _ hh ho.h7]
          refine g_iadd dX5_moved_85 ?_
          refine g_istore2 dX5_moved_86 rfl (by decide) ?_
          refine g_iinc3 dX5_moved_87 rfl (by decide) ?_
          refine g_goto (tgt := 27) dX5_moved_90 rfl ?_
          first
            | exact ih (by omega) _ _ _ (by push_cast; omega) (by rw [hx, wMv_s s h (r + 1), if_neg (fun w => h46 ⟨by omega, by rw [z1]; exact cdZ_ne w.1, by rw [z2]; exact cdZ_ne w.2.1⟩)]; omega)
            | refine ih (by omega) _ _ _ (by push_cast; omega) ?_
              rw [hx, wMv_s s h (r + 1)]
              by_cases c0 : dgt (wWp s (r + 1)) h ≠ dgt (wWp s (r + 1 + 1)) h
              · rw [if_pos c0, if_pos ⟨q1, q2, c0⟩]; rfl
              · rw [if_neg c0, if_neg (fun w => c0 w.2.2)]; rfl
    refine g_iconst dX5_moved_23 ?_
    refine g_istore2 dX5_moved_24 rfl (by decide) ?_
    refine g_iconst dX5_moved_25 ?_
    refine g_istore3 dX5_moved_26 rfl (by decide) ?_
    exact loop 0 (Nat.zero_le _) _ _ _ rfl rfl
  · refine g_iconst dX5_moved_21 ?_
    refine g_iretI rfl dX5_moved_22 ?_
    exact Fq.ret (by rw [if_pos h18]) hq K1 hL1
theorem moved_bad {B : Int} {s : Int → Int} (ho : SOK B s) (hc : CSt σ 1 s) {x : Int} (hx : R32 x) (h : ¬ (0 ≤ x ∧ x < s 3)) : Ft g zX5_moved [.ref 0, iv x] σ l 1 := by
  refine Fn.of [some (.ref 0), some (iv x), none, none, none] rfl (by decide) (Nat.le_of_ble_eq_true rfl) rfl ?_
  refine g_aload0 dX5_moved_0 ?_
  refine g_iload1 dX5_moved_1 ?_
  refine f_cV1t (needHole_bad ho hc hx h) rfl (by decide) rfl oY_X5_needHole oI_X5_needHole lk_X5_157 rfl dX5_moved_2 (by omega) (by omega) rfl (Or.inl rfl) rfl ?_
  exact Ft.ret
/-- the first play of the way so far; the holes that changed since, as bits -/
def wFs (s : Int → Int) : Nat → Int
  | 0 => -1
  | k + 1 => if wWp s (k + 1) = -1 then wFs s k else if wFs s k = -1 then wWp s (k + 1) else wFs s k
def wDf (s : Int → Int) : Nat → Nat
  | 0 => 0
  | k + 1 => if wWp s (k + 1) = -1 then wDf s k else wDf s k ||| dfH (cdP ((3 ^ wH s : Nat) : Int) (wFs s (k + 1))) (cdP ((3 ^ wH s : Nat) : Int) (wWp s (k + 1)))
theorem wDf_lt (s : Int → Int) (n : Nat) : wDf s n < 128 := by
  induction n with
  | zero => show 0 < 128; decide
  | succ n ih =>
    unfold wDf
    split
    · exact ih
    · exact Nat.or_lt_two_pow (n := 7) ih (dfH_lt _ _)
/-- the holes below H whose bits aren't in d -/
def idN (d : Nat) : Nat → Nat
  | 0 => 0
  | h + 1 => idN d h + (if d.testBit h then 0 else 2 ^ h)
theorem idl : ∀ H : Fin 8, ∀ d : Fin 128, Int32.ofInt (1 * ((2 ^ H.val : Nat) : Int) - 1) &&& (Int32.ofInt (d.val : Int) ^^^ Int32.ofInt (-1)) = Int32.ofInt (idN d.val H.val : Int) := by decide +kernel
def wId (s : Int → Int) : Int := idN (wDf s (wN s)) (wH s)
theorem idle_ok {B : Int} {s : Int → Int} (hK : Kc σ l B s)  : Fq g zX5_idle [.ref 0] σ l B s (iv (if wTot s = -1 then -1 else wId s)) := by
  have ho := hK.ok
  have hc := hK.st
  have hp := p3_le ho.h7
  have hp0 := p3_pos (wH s)
  have hNn : 2 * 3 ^ wH s ≤ 4374 := by omega
  have hNe : ((2 * 3 ^ wH s : Nat) : Int) = 2 * ((3 ^ wH s : Nat) : Int) := by push_cast; rfl
  have hn40 := ho.n40
  obtain ⟨L, hL, hF⟩ := freshen_ok (g := g) (lev := 3) hK ⟨by decide, by decide⟩
  refine ⟨L, hL, Fn.of [some (.ref 0), none, none, none, none] rfl (by decide) (Nat.le_of_ble_eq_true rfl) rfl ?_⟩
  refine g_aload0 dX5_idle_0 ?_
  refine g_iconst dX5_idle_1 ?_
  refine f_cV1m (hF) rfl (by decide) rfl oY_X5_freshen oI_X5_freshen lk_X5_178 rfl dX5_idle_2 (Nat.le_refl _) (Nat.le_refl _) rfl (okFb_of rfl) (fun σ2 l2 h2 => ?_)
  obtain ⟨hq, K1, hv, hL1⟩ := h2
  have c1 := K1.st
  obtain ⟨F1, F2⟩ := K1.ca.p1 (by omega)
  have hfc := K1.ca.fc
  have hrw : ∀ p, 0 ≤ p → p < 2 * ((3 ^ wH s : Nat) : Int) → 0 ≤ fgF ((3 ^ wH s : Nat) : Int) p ∧ fgF ((3 ^ wH s : Nat) : Int) p < ((3 ^ wH s : Nat) : Int) := fun p a0 a1 => fgF_rng a0 a1
  obtain ⟨hCh, G2⟩ := K1.ca.p2 (by omega)
  have hW := K1.ca.p3 (by omega)
  refine g_aload0 dX5_idle_5 ?_
  refine f_getr (r := 40) rfl (by decide) rfl rfl fl_X5_70 dX5_idle_6 ?_
  refine f_geti (J := 0) rfl (by decide) rfl rfl fl_X5_249 dX5_idle_9 ?_
  rw [way_0 hW]
  have hTr := wTot_rng ho
  refine g_iconst dX5_idle_12 ?_
  refine g_icmp_ne ⟨by omega, by omega⟩ ⟨by decide, by decide⟩ (tgt := 18) dX5_idle_13 rfl (fun h13 => ?_) (fun h13 => ?_)
  · have loop : ∀ q, q ≤ wN s → ∀ (i be : Int) (di : Nat) (u4 : Option Value), i = (q : Int) → be = cdZ ((3 ^ wH s : Nat) : Int) (wFs s q) → di = wDf s q → FW g zX5_idle (pcL l - pcL L - (pcL l - pcL L)) (psL l - psL L - (psL l - psL L)) (fun o τ l' => o = .inl (some (iv (if wTot s = -1 then -1 else wId s))) ∧ Qf σ τ ∧ Kc τ l' B s ∧ LE2 L l') 24 [some (.ref 0), some (iv be), some (iv (di : Int)), some (iv i), u4] [] σ2 l2 := by
      refine loopUp _ (fun q hq2 ih i be di u4 hi hbe hdi => ?_)
      subst hi
      subst hbe
      subst hdi
      refine g_iload3 dX5_idle_24 ?_
      refine g_aload0 dX5_idle_25 ?_
      refine f_getr (r := 1) rfl (by decide) rfl rfl fl_X5_10 dX5_idle_26 ?_
      refine f_geti (J := 9) rfl (by decide) rfl rfl fl_X5_101 dX5_idle_29 ?_
      rw [c1.f9, ho.nI]
      refine g_icmp_ge ⟨by omega, by omega⟩ ⟨by omega, by omega⟩ (tgt := 81) dX5_idle_32 rfl (fun h32 => ?_) (fun h32 => ?_)
      · refine g_iconst dX5_idle_81 ?_
        refine g_aload0 dX5_idle_82 ?_
        refine f_getr (r := 1) rfl (by decide) rfl rfl fl_X5_10 dX5_idle_83 ?_
        refine f_geti (J := 8) rfl (by decide) rfl rfl fl_X5_123 dX5_idle_86 ?_
        rw [c1.f8, ho.hI]
        refine g_ishl (by have := ho.h7; omega) dX5_idle_89 ?_
        refine g_iconst dX5_idle_90 ?_
        refine g_isub dX5_idle_91 ?_
        refine g_iload2 dX5_idle_92 ?_
        refine g_iconst dX5_idle_93 ?_
        refine g_ixorR dX5_idle_94 ?_
        refine g_iandR dX5_idle_95 ?_
        have e9 : q = wN s := by omega
        subst e9
        rw [idl ⟨wH s, by have := ho.h7; omega⟩ ⟨wDf s (wN s), wDf_lt _ _⟩]
        refine g_iretI rfl dX5_idle_96 ?_
        exact Fq.ret (by rw [if_neg h13]; rfl) hq K1 hL1
      · refine g_aload0 dX5_idle_35 ?_
        refine f_getr (r := 40) rfl (by decide) rfl rfl fl_X5_70 dX5_idle_36 ?_
        refine f_getr (r := 42) rfl (by decide) rfl rfl fl_X5_263 dX5_idle_39 ?_
        refine g_iload3 dX5_idle_42 ?_
        refine f_cS2w (atI rfl (by decide) (by omega) (by show (q : Int) < (40 : Nat); omega)) oY_X5_at oT_X5_at lk_X5_164 rfl dX5_idle_43 rfl (Or.inl rfl) ?_
        rw [(way_k hW h13 q (by omega)).2]
        refine g_istore4 dX5_idle_46 rfl (by decide) ?_
        refine g_iload4 dX5_idle_48 ?_
        refine g_iconst dX5_idle_50 ?_
        refine g_icmp_eq (cdZ_R _ _) ⟨by decide, by decide⟩ (tgt := 75) dX5_idle_51 rfl (fun h51 => ?_) (fun h51 => ?_)
        · refine g_iinc3 dX5_idle_75 rfl (by decide) ?_
          refine g_goto (tgt := 24) dX5_idle_78 rfl ?_
          first
            | have p0 : wWp s (q + 1) = -1 := Classical.byContradiction fun z => cdZ_ne z h51
              exact ih (by omega) _ _ _ _ (by push_cast; omega) (by rw [wFs, if_pos p0]) (by rw [wDf, if_pos p0])
            | have fe : wFs s (q + 1) = wFs s q := by rw [wFs, if_neg p1, if_neg f1]
              exact ih (by omega) _ _ _ _ (by push_cast; omega) (by rw [fe, cdZ_v f1]) (by rw [wDf, if_neg p1, fe])
            | have f0 : wFs s q = -1 := Classical.byContradiction fun z => cdZ_ne z h56
              have fe : wFs s (q + 1) = wWp s (q + 1) := by rw [wFs, if_neg p1, if_pos f0]
              exact ih (by omega) _ _ _ _ (by push_cast; omega) (by rw [fe, cdZ_v p1]) (by rw [wDf, if_neg p1, fe])
        · have p1 : wWp s (q + 1) ≠ -1 := cdZ_n h51
          rw [cdZ_v p1]
          refine g_iload1 dX5_idle_54 ?_
          refine g_iconst dX5_idle_55 ?_
          refine g_icmp_ne (cdZ_R _ _) ⟨by decide, by decide⟩ (tgt := 64) dX5_idle_56 rfl (fun h56 => ?_) (fun h56 => ?_)
          · have f1 : wFs s q ≠ -1 := cdZ_n h56
            rw [cdZ_v f1]
            refine g_iload1 dX5_idle_64 ?_
            refine g_istore1 dX5_idle_65 rfl (by decide) ?_
            refine g_iload2 dX5_idle_66 ?_
            refine g_iload1 dX5_idle_67 ?_
            refine g_iload4 dX5_idle_68 ?_
            refine f_cS2w (differingHoles_ok (cdP_lt _ _) (cdP_lt _ _)) oY_X5_differingHoles oT_X5_differingHoles lk_X5_225 rfl dX5_idle_70 rfl (Or.inl rfl) ?_
            refine g_ior dX5_idle_73 ?_
            refine g_istore2 dX5_idle_74 rfl (by decide) ?_
            refine g_iinc3 dX5_idle_75 rfl (by decide) ?_
            refine g_goto (tgt := 24) dX5_idle_78 rfl ?_
            first
              | have p0 : wWp s (q + 1) = -1 := Classical.byContradiction fun z => cdZ_ne z h51
                exact ih (by omega) _ _ _ _ (by push_cast; omega) (by rw [wFs, if_pos p0]) (by rw [wDf, if_pos p0])
              | have fe : wFs s (q + 1) = wFs s q := by rw [wFs, if_neg p1, if_neg f1]
                exact ih (by omega) _ _ _ _ (by push_cast; omega) (by rw [fe, cdZ_v f1]) (by rw [wDf, if_neg p1, fe])
              | have f0 : wFs s q = -1 := Classical.byContradiction fun z => cdZ_ne z h56
                have fe : wFs s (q + 1) = wWp s (q + 1) := by rw [wFs, if_neg p1, if_pos f0]
                exact ih (by omega) _ _ _ _ (by push_cast; omega) (by rw [fe, cdZ_v p1]) (by rw [wDf, if_neg p1, fe])
          · refine g_iload4 dX5_idle_59 ?_
            refine g_goto (tgt := 65) dX5_idle_61 rfl ?_
            refine g_istore1 dX5_idle_65 rfl (by decide) ?_
            refine g_iload2 dX5_idle_66 ?_
            refine g_iload1 dX5_idle_67 ?_
            refine g_iload4 dX5_idle_68 ?_
            refine f_cS2w (differingHoles_ok (cdP_lt _ _) (cdP_lt _ _)) oY_X5_differingHoles oT_X5_differingHoles lk_X5_225 rfl dX5_idle_70 rfl (Or.inl rfl) ?_
            refine g_ior dX5_idle_73 ?_
            refine g_istore2 dX5_idle_74 rfl (by decide) ?_
            refine g_iinc3 dX5_idle_75 rfl (by decide) ?_
            refine g_goto (tgt := 24) dX5_idle_78 rfl ?_
            first
              | have p0 : wWp s (q + 1) = -1 := Classical.byContradiction fun z => cdZ_ne z h51
                exact ih (by omega) _ _ _ _ (by push_cast; omega) (by rw [wFs, if_pos p0]) (by rw [wDf, if_pos p0])
              | have fe : wFs s (q + 1) = wFs s q := by rw [wFs, if_neg p1, if_neg f1]
                exact ih (by omega) _ _ _ _ (by push_cast; omega) (by rw [fe, cdZ_v f1]) (by rw [wDf, if_neg p1, fe])
              | have f0 : wFs s q = -1 := Classical.byContradiction fun z => cdZ_ne z h56
                have fe : wFs s (q + 1) = wWp s (q + 1) := by rw [wFs, if_neg p1, if_pos f0]
                exact ih (by omega) _ _ _ _ (by push_cast; omega) (by rw [fe, cdZ_v p1]) (by rw [wDf, if_neg p1, fe])
    refine g_iconst dX5_idle_18 ?_
    refine g_istore1 dX5_idle_19 rfl (by decide) ?_
    refine g_iconst dX5_idle_20 ?_
    refine g_istore2 dX5_idle_21 rfl (by decide) ?_
    refine g_iconst dX5_idle_22 ?_
    refine g_istore3 dX5_idle_23 rfl (by decide) ?_
    exact loop 0 (Nat.zero_le _) _ _ _ _ rfl rfl rfl
  · refine g_iconst dX5_idle_16 ?_
    refine g_iretI rfl dX5_idle_17 ?_
    exact Fq.ret (by rw [if_pos h13]) hq K1 hL1
/-- how many changes the way has -/
def wCh (s : Int → Int) : Nat → Int
  | 0 => 0
  | k + 1 => wCh s k + (if wWp s k ≠ -1 ∧ wWp s (k + 1) ≠ -1 then 1 else 0)
theorem wCh_s (s : Int → Int) (k : Nat) : wCh s (k + 1) = wCh s k + (if wWp s k ≠ -1 ∧ wWp s (k + 1) ≠ -1 then 1 else 0) := rfl
theorem wCh_rng (s : Int → Int) (n : Nat) : 0 ≤ wCh s n ∧ wCh s n ≤ n := by
  induction n with
  | zero => exact ⟨Int.le_refl _, Int.le_refl _⟩
  | succ n ih => unfold wCh; split <;> omega
def wMc (s : Int → Int) : UInt64 := if wTot s = -1 ∨ wCh s (wN s) = 0 then FP.dconst0 else FP.ddiv (FP.i2d (Int32.ofInt (wTot s))) (FP.i2d (Int32.ofInt (wCh s (wN s))))
theorem meanCost_ok {B : Int} {s : Int → Int} (hK : Kc σ l B s)  : Fq g zX5_meanCost [.ref 0] σ l B s (.double (wMc s)) := by
  have ho := hK.ok
  have hc := hK.st
  have hp := p3_le ho.h7
  have hp0 := p3_pos (wH s)
  have hNn : 2 * 3 ^ wH s ≤ 4374 := by omega
  have hNe : ((2 * 3 ^ wH s : Nat) : Int) = 2 * ((3 ^ wH s : Nat) : Int) := by push_cast; rfl
  have hn40 := ho.n40
  obtain ⟨L, hL, hF⟩ := freshen_ok (g := g) (lev := 3) hK ⟨by decide, by decide⟩
  refine ⟨L, hL, Fn.of [some (.ref 0), none, none] rfl (by decide) (Nat.le_of_ble_eq_true rfl) rfl ?_⟩
  refine g_aload0 dX5_meanCost_0 ?_
  refine g_iconst dX5_meanCost_1 ?_
  refine f_cV1m (hF) rfl (by decide) rfl oY_X5_freshen oI_X5_freshen lk_X5_178 rfl dX5_meanCost_2 (Nat.le_refl _) (Nat.le_refl _) rfl (okFb_of rfl) (fun σ2 l2 h2 => ?_)
  obtain ⟨hq, K1, hv, hL1⟩ := h2
  have c1 := K1.st
  obtain ⟨F1, F2⟩ := K1.ca.p1 (by omega)
  have hfc := K1.ca.fc
  have hrw : ∀ p, 0 ≤ p → p < 2 * ((3 ^ wH s : Nat) : Int) → 0 ≤ fgF ((3 ^ wH s : Nat) : Int) p ∧ fgF ((3 ^ wH s : Nat) : Int) p < ((3 ^ wH s : Nat) : Int) := fun p a0 a1 => fgF_rng a0 a1
  obtain ⟨hCh, G2⟩ := K1.ca.p2 (by omega)
  have hW := K1.ca.p3 (by omega)
  refine g_aload0 dX5_meanCost_5 ?_
  refine f_getr (r := 40) rfl (by decide) rfl rfl fl_X5_70 dX5_meanCost_6 ?_
  refine f_geti (J := 0) rfl (by decide) rfl rfl fl_X5_249 dX5_meanCost_9 ?_
  rw [way_0 hW]
  have hTr := wTot_rng ho
  refine g_iconst dX5_meanCost_12 ?_
  refine g_icmp_ne ⟨by omega, by omega⟩ ⟨by decide, by decide⟩ (tgt := 18) dX5_meanCost_13 rfl (fun h13 => ?_) (fun h13 => ?_)
  · have hz : ∀ r, r + 1 < wN s → σ2 42 (((r + 1 : Nat) : Int) - 1) = cdZ ((3 ^ wH s : Nat) : Int) (wWp s (r + 1)) ∧ σ2 42 ((r + 1 : Nat) : Int) = cdZ ((3 ^ wH s : Nat) : Int) (wWp s (r + 1 + 1)) := fun r hr => ⟨by rw [show ((r + 1 : Nat) : Int) - 1 = (r : Int) from by omega]; exact (way_k hW h13 r (by omega)).2, (way_k hW h13 (r + 1) hr).2⟩
    have loop : ∀ r, r ≤ wN s - 1 → ∀ (i x : Int), i = ((r + 1 : Nat) : Int) → x = wCh s (r + 1) → FW g zX5_meanCost (pcL l - pcL L - (pcL l - pcL L)) (psL l - psL L - (psL l - psL L)) (fun o τ l' => o = .inl (some (.double (wMc s))) ∧ Qf σ τ ∧ Kc τ l' B s ∧ LE2 L l') 22 [some (.ref 0), some (iv x), some (iv i)] [] σ2 l2 := by
      refine loopUp _ (fun r hr2 ih i x hi hx => ?_)
      subst hi
      refine g_iload2 dX5_meanCost_22 ?_
      refine g_aload0 dX5_meanCost_23 ?_
      refine f_getr (r := 1) rfl (by decide) rfl rfl fl_X5_10 dX5_meanCost_24 ?_
      refine f_geti (J := 9) rfl (by decide) rfl rfl fl_X5_101 dX5_meanCost_27 ?_
      rw [c1.f9, ho.nI]
      refine g_icmp_ge ⟨by omega, by omega⟩ ⟨by omega, by omega⟩ (tgt := 58) dX5_meanCost_30 rfl (fun h30 => ?_) (fun h30 => ?_)
      · have hx9 : x = wCh s (wN s) := by
          rw [hx]
          by_cases c0 : r + 1 ≤ wN s
          · rw [show r + 1 = wN s from by omega]
          · rw [show wN s = 0 from by omega, show r = 0 from by omega]
            rfl
        subst hx9
        have hcr := wCh_rng s (wN s)
        refine g_iload1 dX5_meanCost_58 ?_
        refine g_if_ne ⟨by omega, by omega⟩ (tgt := 66) dX5_meanCost_59 rfl (fun h59 => ?_) (fun h59 => ?_)
        · refine g_aload0 dX5_meanCost_66 ?_
          refine f_getr (r := 40) rfl (by decide) rfl rfl fl_X5_70 dX5_meanCost_67 ?_
          refine f_geti (J := 0) rfl (by decide) rfl rfl fl_X5_249 dX5_meanCost_70 ?_
          rw [way_0 hW]
          refine g_i2d dX5_meanCost_73 ?_
          refine g_iload1 dX5_meanCost_74 ?_
          refine g_i2d dX5_meanCost_75 ?_
          refine g_ddiv (nn64 ⟨by omega, by omega⟩ ⟨by omega, by omega⟩) dX5_meanCost_76 ?_
          refine g_dreturn rfl dX5_meanCost_77 ?_
          first
            | exact Fq.ret (by unfold wMc; rw [if_pos (Or.inr h59)]) hq K1 hL1
            | exact Fq.ret (by unfold wMc; rw [if_neg (fun z => z.elim h13 h59)]) hq K1 hL1
        · refine g_dconst0 dX5_meanCost_62 ?_
          refine g_goto (tgt := 77) dX5_meanCost_63 rfl ?_
          refine g_dreturn rfl dX5_meanCost_77 ?_
          first
            | exact Fq.ret (by unfold wMc; rw [if_pos (Or.inr h59)]) hq K1 hL1
            | exact Fq.ret (by unfold wMc; rw [if_neg (fun z => z.elim h13 h59)]) hq K1 hL1
      · obtain ⟨z1, z2⟩ := hz r (by omega)
        have d1 := cdP_lt ((3 ^ wH s : Nat) : Int) (wWp s (r + 1))
        have d2 := cdP_lt ((3 ^ wH s : Nat) : Int) (wWp s (r + 1 + 1))
        refine g_iload1 dX5_meanCost_33 ?_
        refine g_aload0 dX5_meanCost_34 ?_
        refine f_getr (r := 40) rfl (by decide) rfl rfl fl_X5_70 dX5_meanCost_35 ?_
        refine g_iload2 dX5_meanCost_38 ?_
        refine f_cV1w (isChangeTo_ok isWy40 ⟨by omega, by omega⟩ (fun _ => by rw [z1]; unfold cdZ; split <;> constructor <;> omega) (by rw [z2]; unfold cdZ; split <;> constructor <;> omega)) rfl (by decide) rfl oY_X4_isChangeTo oI_X4_isChangeTo lk_X5_259 rfl dX5_meanCost_39 rfl (Or.inl rfl) ?_
        refine g_ifeqB (tgt := 49) dX5_meanCost_42 rfl (fun h42 => ?_) (fun h42 => ?_)
        · refine g_iconst dX5_meanCost_49 ?_
          refine g_iadd dX5_meanCost_50 ?_
          refine g_istore1 dX5_meanCost_51 rfl (by decide) ?_
          refine g_iinc2 dX5_meanCost_52 rfl (by decide) ?_
          refine g_goto (tgt := 22) dX5_meanCost_55 rfl ?_
          first
            | exact ih (by omega) _ _ (by push_cast; omega) (by rw [hx, wCh_s s (r + 1), if_neg (fun w => h42 ⟨by omega, by rw [z1]; exact cdZ_ne w.1, by rw [z2]; exact cdZ_ne w.2⟩)])
            | exact ih (by omega) _ _ (by push_cast; omega) (by rw [hx, wCh_s s (r + 1), if_pos ⟨q1, q2⟩])
        · have q1 : wWp s (r + 1) ≠ -1 := cdZ_n (by rw [← z1]; exact h42.2.1)
          have q2 : wWp s (r + 1 + 1) ≠ -1 := cdZ_n (by rw [← z2]; exact h42.2.2)
          refine g_iconst dX5_meanCost_45 ?_
          refine g_goto (tgt := 50) dX5_meanCost_46 rfl ?_
          refine g_iadd dX5_meanCost_50 ?_
          refine g_istore1 dX5_meanCost_51 rfl (by decide) ?_
          refine g_iinc2 dX5_meanCost_52 rfl (by decide) ?_
          refine g_goto (tgt := 22) dX5_meanCost_55 rfl ?_
          first
            | exact ih (by omega) _ _ (by push_cast; omega) (by rw [hx, wCh_s s (r + 1), if_neg (fun w => h42 ⟨by omega, by rw [z1]; exact cdZ_ne w.1, by rw [z2]; exact cdZ_ne w.2⟩)])
            | exact ih (by omega) _ _ (by push_cast; omega) (by rw [hx, wCh_s s (r + 1), if_pos ⟨q1, q2⟩])
    refine g_iconst dX5_meanCost_18 ?_
    refine g_istore1 dX5_meanCost_19 rfl (by decide) ?_
    refine g_iconst dX5_meanCost_20 ?_
    refine g_istore2 dX5_meanCost_21 rfl (by decide) ?_
    exact loop 0 (Nat.zero_le _) _ _ rfl rfl
  · refine g_dconst0 dX5_meanCost_16 ?_
    refine g_dreturn rfl dX5_meanCost_17 ?_
    exact Fq.ret (by unfold wMc; rw [if_pos (Or.inl h13)]) hq K1 hL1
def wFg (s : Int → Int) (t : Int) : UInt32 := if cnI (wT s) t (2 * 3 ^ wH s) = 0 then FP.fconst0 else FP.fdiv (FP.i2f (Int32.ofInt ((wEt s t).length : Int))) (FP.i2f (Int32.ofInt (cnI (wT s) t (2 * 3 ^ wH s))))
theorem fingering_ok {B : Int} {s : Int → Int} (hK : Kc σ l B s) {t : Int} (hx : R32 t) (h : 0 ≤ t ∧ t ≤ 24) : Fq g zX5_fingering [.ref 0, iv t] σ l B s (.float (wFg s t)) := by
  have ho := hK.ok
  have hc := hK.st
  have hp := p3_le ho.h7
  have hp0 := p3_pos (wH s)
  have hNn : 2 * 3 ^ wH s ≤ 4374 := by omega
  have hNe : ((2 * 3 ^ wH s : Nat) : Int) = 2 * ((3 ^ wH s : Nat) : Int) := by push_cast; rfl
  obtain ⟨L, hL, hF⟩ := freshen_ok (g := g) (lev := 2) hK ⟨by decide, by decide⟩
  refine ⟨L, hL, Fn.of [some (.ref 0), some (iv t), none] rfl (by decide) (Nat.le_of_ble_eq_true rfl) rfl ?_⟩
  refine g_aload0 dX5_fingering_0 ?_
  refine g_iload1 dX5_fingering_1 ?_
  refine f_cV1d (needTone_ok hx h) rfl (by decide) rfl oY_X5_needTone oI_X5_needTone lk_X5_198 rfl dX5_fingering_2 rfl (Or.inl rfl) ?_
  refine g_aload0 dX5_fingering_5 ?_
  refine g_iconst dX5_fingering_6 ?_
  refine f_cV1m (hF) rfl (by decide) rfl oY_X5_freshen oI_X5_freshen lk_X5_178 rfl dX5_fingering_7 (Nat.le_refl _) (Nat.le_refl _) rfl (okFb_of rfl) (fun σ7 l7 h7 => ?_)
  obtain ⟨hq, K1, hv, hL1⟩ := h7
  have c1 := K1.st
  obtain ⟨F1, F2⟩ := K1.ca.p1 (by omega)
  have hfc := K1.ca.fc
  have hrw : ∀ p, 0 ≤ p → p < 2 * ((3 ^ wH s : Nat) : Int) → 0 ≤ fgF ((3 ^ wH s : Nat) : Int) p ∧ fgF ((3 ^ wH s : Nat) : Int) p < ((3 ^ wH s : Nat) : Int) := fun p a0 a1 => fgF_rng a0 a1
  obtain ⟨hCh, G2⟩ := K1.ca.p2 (by omega)
  obtain ⟨fs, hat, hct, hlen, hfs0, hfs1, hqA⟩ := tone_w (l := l7) ho hCh t
  refine g_aload0 dX5_fingering_10 ?_
  refine f_getr (r := 24) rfl (by decide) rfl rfl fl_X5_60 dX5_fingering_11 ?_
  refine f_getr (r := 27) rfl (by decide) rfl rfl fl_X5_216 dX5_fingering_14 ?_
  refine g_iload1 dX5_fingering_17 ?_
  refine f_cS2w (atI rfl (by decide) (by omega) (by show t < (25 : Nat); omega)) oY_X5_at oT_X5_at lk_X5_164 rfl dX5_fingering_18 rfl (Or.inl rfl) ?_
  rw [hCh.2.2.1 t (by omega) (by omega)]
  have hall := cnI_rng (f := wT s) (t := t) (2 * 3 ^ wH s)
  refine g_istore2 dX5_fingering_21 rfl (by decide) ?_
  refine g_iload2 dX5_fingering_22 ?_
  refine g_if_ne ⟨by omega, by omega⟩ (tgt := 30) dX5_fingering_23 rfl (fun h23 => ?_) (fun h23 => ?_)
  · refine g_aload0 dX5_fingering_30 ?_
    refine f_getr (r := 24) rfl (by decide) rfl rfl fl_X5_60 dX5_fingering_31 ?_
    refine g_iload1 dX5_fingering_34 ?_
    refine f_cV1w (countOf_ok isCh24 ⟨by omega, by omega⟩) rfl (by decide) rfl oY_X0_countOf oI_X0_countOf lk_X5_201 rfl dX5_fingering_35 rfl (Or.inl rfl) ?_
    rw [hct]
    refine g_i2f dX5_fingering_38 ?_
    refine g_iload2 dX5_fingering_39 ?_
    refine g_i2f dX5_fingering_40 ?_
    refine g_fdiv (nn32 ⟨by omega, by omega⟩ ⟨by omega, by omega⟩) dX5_fingering_41 ?_
    refine g_freturn rfl dX5_fingering_42 ?_
    first
      | exact Fq.ret (by unfold wFg; rw [if_pos h23]) hq K1 hL1
      | exact Fq.ret (by unfold wFg; rw [if_neg h23]) hq K1 hL1
  · refine g_fconst0 dX5_fingering_26 ?_
    refine g_goto (tgt := 42) dX5_fingering_27 rfl ?_
    refine g_freturn rfl dX5_fingering_42 ?_
    first
      | exact Fq.ret (by unfold wFg; rw [if_pos h23]) hq K1 hL1
      | exact Fq.ret (by unfold wFg; rw [if_neg h23]) hq K1 hL1
theorem fingering_bad {B : Int} {s : Int → Int} (ho : SOK B s) (hc : CSt σ 1 s) {t : Int} (hx : R32 t) (h : ¬ (0 ≤ t ∧ t ≤ 24)) : Ft g zX5_fingering [.ref 0, iv t] σ l 0 := by
  refine Fn.of [some (.ref 0), some (iv t), none] rfl (by decide) (Nat.le_of_ble_eq_true rfl) rfl ?_
  refine g_aload0 dX5_fingering_0 ?_
  refine g_iload1 dX5_fingering_1 ?_
  refine f_cV1t (needTone_bad hx h) rfl (by decide) rfl oY_X5_needTone oI_X5_needTone lk_X5_198 rfl dX5_fingering_2 (by omega) (by omega) rfl (Or.inl rfl) rfl ?_
  exact Ft.ret
end C52
