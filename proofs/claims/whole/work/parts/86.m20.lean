/-! The model's reader: holes, notes, repeats -/
section C86
variable {g : gT} {σ τ : sT} {l : Nat → Nat}
def Mf (σ τ : sT) : Prop := (∀ a, a ≠ 92 → a ≠ 94 → a ≠ 106 → τ a = σ a) ∧ ∀ j, j ≠ 16 → j ≠ 17 → j ≠ 18 → j ≠ 19 → j ≠ 22 → τ 92 j = σ 92 j
theorem Mf.nn {ρ : sT} (h : Mf σ τ) (h2 : Nn τ ρ) : Mf σ ρ := ⟨fun a a0 a1 a2 => (h2.1 a a0).trans (h.1 a a0 a1 a2), fun j a b c d e => (h2.2 j a b c d).trans (h.2 j a b c d e)⟩
theorem Mf.u9 {j v : Int} (h : Mf σ τ) (hj : j = 16 ∨ j = 17 ∨ j = 18 ∨ j = 19 ∨ j = 22) : Mf σ (up τ 92 j v) := ⟨fun a a0 a1 a2 => by rw [up_n a0]; exact h.1 a a0 a1 a2, fun i a b c d e => by rw [up_ne (fun z => by omega)]; exact h.2 i a b c d e⟩
theorem Mf.up4 {j v : Int} (h : Mf σ τ) : Mf σ (up τ 94 j v) := ⟨fun a a0 a1 a2 => by rw [up_n a1]; exact h.1 a a0 a1 a2, fun i a b c d e => by rw [up_n (by decide)]; exact h.2 i a b c d e⟩
theorem Mf.up6 {j v : Int} (h : Mf σ τ) : Mf σ (up τ 106 j v) := ⟨fun a a0 a1 a2 => by rw [up_n a2]; exact h.1 a a0 a1 a2, fun i a b c d e => by rw [up_n (by decide)]; exact h.2 i a b c d e⟩
/-- a reading that has failed -/
def PFm (σ : sT) (st : Int) (e : Int × Nat) (τ : sT) : Prop := Mf σ τ ∧ τ 92 18 = e.1 ∧ τ 92 19 = (e.2 : Int) ∧ τ 92 22 = st ∧ 1 ≤ e.1 ∧ e.1 ≤ 4
/-- a reading that goes on -/
def PSm (σ : sT) (N : Nat) (st : Int) (q : (Int → Int) × Nat) (τ : sT) : Prop := Mf σ τ ∧ τ 92 18 = 0 ∧ τ 92 19 = 0 ∧ τ 92 22 = st ∧ τ 92 16 = (q.2 : Int) ∧ Rw (τ 94) q.1 ∧ q.2 ≤ N
def Rv {α β : Type} (l : Nat → Nat) (A : α → sT → Prop) (B : β → sT → Prop) (r : Sum α β) : mO → sT → (Nat → Nat) → Prop := fun o τ l' => l' = l ∧ o = .inl none ∧ match r with
  | .inl e => A e τ
  | .inr q => B q τ
theorem Rv.no {α β : Type} {A : α → sT → Prop} {B : β → sT → Prop} {r : Sum α β} {e : α} (hr : r = .inl e) (h : A e τ) : fΦ (Rv l A B r) (.inl none) (mem τ l) := by
  subst hr
  exact ⟨τ, l, rfl, rfl, rfl, h⟩
theorem Rv.yes {α β : Type} {A : α → sT → Prop} {B : β → sT → Prop} {r : Sum α β} {q : β} (hr : r = .inr q) (h : B q τ) : fΦ (Rv l A B r) (.inl none) (mem τ l) := by
  subst hr
  exact ⟨τ, l, rfl, rfl, rfl, h⟩
theorem PFm.set {st k v : Int} {e : Int × Nat} (h : PFm σ st e τ) : PFm σ st e (up τ 94 k v) := ⟨h.1.up4, by rw [up_n (by decide)]; exact h.2.1, by rw [up_n (by decide)]; exact h.2.2.1, by rw [up_n (by decide)]; exact h.2.2.2.1, h.2.2.2.2⟩
theorem PSm.set {N p : Nat} {st k v : Int} {d : Int → Int} (h : PSm σ N st (d, p) τ) : PSm σ N st (su d k v, p) (up τ 94 k v) := ⟨h.1.up4, by rw [up_n (by decide)]; exact h.2.1, by rw [up_n (by decide)]; exact h.2.2.1, by rw [up_n (by decide)]; exact h.2.2.2.1, by rw [up_n (by decide)]; exact h.2.2.2.2.1, fun j j0 j1 => by
  show up τ 94 k v 94 j = su d k v j
  unfold su
  by_cases e : j = k
  · rw [e, up_eq, if_pos rfl]
  · rw [up_ne (fun z => e z.2), if_neg e]; exact h.2.2.2.2.2.1 j j0 j1, h.2.2.2.2.2.2⟩
theorem PSm.rw {N p : Nat} {st : Int} {d d2 : Int → Int} (h : PSm σ N st (d, p) τ) (r : Rw d d2) : PSm σ N st (d2, p) τ := ⟨h.1, h.2.1, h.2.2.1, h.2.2.2.1, h.2.2.2.2.1, h.2.2.2.2.2.1.trans r, h.2.2.2.2.2.2⟩
theorem PSm.d {N p : Nat} {st : Int} {d : Int → Int} (h : PSm σ N st (d, p) τ) {k : Int} (h0 : 0 ≤ k) (h1 : k < 67) : τ 94 k = d k := h.2.2.2.2.2.1 k h0 h1
theorem PSm.fail {N : Nat} {st k : Int} {q : (Int → Int) × Nat} {pl : Nat} (h : PSm σ N st q τ) (hk : 1 ≤ k ∧ k ≤ 4) : PFm σ st (k, pl) (up (up τ 92 18 k) 92 19 (pl : Int)) := ⟨(h.1.u9 (by omega)).u9 (by omega), by rw [up_ne (fun z => by omega), up_eq], up_eq, by rw [up_ne (fun z => by omega), up_ne (fun z => by omega)]; exact h.2.2.2.1, hk⟩
theorem rNum_e {T : Int → Int} {N p : Nat} {lo hi : Int} {e : Int × Nat} (h : rNum T N lo hi p = .inl e) : 1 ≤ e.1 ∧ e.1 ≤ 4 := by
  unfold rNum at h
  split at h
  · split at h
    · cases h
    · cases h; exact ⟨show (1 : Int) ≤ 2 by decide, show (2 : Int) ≤ 4 by decide⟩
  · cases h; exact ⟨show (1 : Int) ≤ 1 by decide, show (1 : Int) ≤ 4 by decide⟩
theorem number_y {N p e : Nat} {st lo hi v : Int} {d : Int → Int} (hT : TX (σ 105) N) (hln : σ 92 15 = (N : Int)) (h : PSm σ N st (d, p) τ) (hlo : R32 lo) (hhi : R32 hi) (hr : rNum (σ 105) N lo hi p = .inr (v, e)) : Fn g zX6_number 0 0 [.ref 92, iv lo, iv hi] τ l (fun o ρ l' => o = .inl (some (iv v)) ∧ (l' = l ∧ PSm σ N st (d, e) ρ ∧ ρ 92 17 = (sk isSp (σ 105) N p : Int) ∧ ∀ a, a ≠ 92 → ρ a = τ a)) := by
  refine Fn.mono (number_m (σ := τ) (l := l) (T := σ 105) (N := N) hT ((h.1.2 15 (by decide) (by decide) (by decide) (by decide) (by decide)).trans hln) (h.1.1 105 (by decide) (by decide) (by decide)) (p := p) h.2.2.2.2.1 h.2.2.2.2.2.2 h.2.1 hlo hhi) (fun o ρ l' k => ?_)
  unfold Nz at k
  rw [hr] at k
  obtain ⟨k1, k2, k3, k4, k5, k6, k7⟩ := k
  exact ⟨k3, k1, ⟨h.1.nn k2, k5, k6.trans h.2.2.1, (k2.2 22 (by decide) (by decide) (by decide) (by decide)).trans h.2.2.2.1, k4, by rw [k2.1 94 (by decide)]; exact h.2.2.2.2.2.1, num_le h.2.2.2.2.2.2 hr⟩, k7, k2.1⟩
theorem number_n {N p : Nat} {e : Int × Nat} {st lo hi : Int} {d : Int → Int} (hT : TX (σ 105) N) (hln : σ 92 15 = (N : Int)) (h : PSm σ N st (d, p) τ) (hlo : R32 lo) (hhi : R32 hi) (hr : rNum (σ 105) N lo hi p = .inl e) : Fn g zX6_number 0 0 [.ref 92, iv lo, iv hi] τ l (fun o ρ l' => o = .inl (some (iv lo)) ∧ (l' = l ∧ PFm σ st e ρ ∧ ∀ a, a ≠ 92 → ρ a = τ a)) := by
  refine Fn.mono (number_m (σ := τ) (l := l) (T := σ 105) (N := N) hT ((h.1.2 15 (by decide) (by decide) (by decide) (by decide) (by decide)).trans hln) (h.1.1 105 (by decide) (by decide) (by decide)) (p := p) h.2.2.2.2.1 h.2.2.2.2.2.2 h.2.1 hlo hhi) (fun o ρ l' k => ?_)
  unfold Nz at k
  rw [hr] at k
  obtain ⟨k1, k2, k3, k4, k5⟩ := k
  exact ⟨k3, k1, ⟨h.1.nn k2, k4, k5, (k2.2 22 (by decide) (by decide) (by decide) (by decide)).trans h.2.2.2.1, rNum_e hr⟩, k2.1⟩
theorem number_f {st lo hi : Int} {e : Int × Nat} (h : PFm σ st e τ) : Fw g zX6_number [.ref 92, iv lo, iv hi] τ l (iv lo) := by
  have he := h.2.2.2.2
  have hf0 := isFine_m (g := g) (l := l) (σ := τ) (e := e.1) h.2.1 ⟨by omega, by omega⟩
  rw [bvF (by omega)] at hf0
  refine Fn.of [some (.ref 92), some (iv lo), some (iv hi), none] rfl (by decide) (Nat.le_of_ble_eq_true rfl) rfl ?_
  refine g_aload0 dX6_number_0 ?_
  refine f_cV0w (hf0) rfl (by decide) rfl oY_X6_isFine oI_X6_isFine lk_X6_230 rfl dX6_number_1 rfl (Or.inl rfl) ?_
  refine g_if_ne ⟨by decide, by decide⟩ (tgt := 9) dX6_number_4 rfl (fun h4 => absurd h4 (by decide)) (fun h4 => ?_)
  refine g_iload1 dX6_number_7 ?_
  refine g_iretI rfl dX6_number_8 ?_
  exact Fw.ret rfl
theorem readsHole_m {N p : Nat} {st : Int} {d : Int → Int} (hT : TX (σ 105) N) (hln : σ 92 15 = (N : Int)) (h : PSm σ N st (d, p) τ) (ho : SOK 0 d) {q : Nat} (h17 : τ 92 17 = (q : Int)) : Fn g zX6_readsHole 0 0 [.ref 92] τ l (Rv l (PFm σ st) (PSm σ N st) (rHole (σ 105) N d q p)) := by
  have o3 := ho.holes
  have o0 := ho.len
  have r3 : τ 94 3 = d 3 := h.d (by decide) (by decide)
  have r0 : τ 94 0 = d 0 := h.d (by decide) (by decide)
  refine Fn.of [some (.ref 92), none, none] rfl (by decide) (Nat.le_of_ble_eq_true rfl) rfl ?_
  by_cases c7 : d 3 = 7
  · refine g_aload0 dX6_readsHole_0 ?_
    refine f_getr (r := 94) rfl (by decide) rfl rfl fl_X6_13 dX6_readsHole_1 ?_
    refine g_iconst dX6_readsHole_4 ?_
    refine f_iald rfl (by decide) ⟨by omega, by show _ < ((67 : Nat) : Int); omega⟩ dX6_readsHole_5 ?_
    rw [r3]
    refine g_istore1 dX6_readsHole_6 rfl (by decide) ?_
    refine g_iload1 dX6_readsHole_7 ?_
    refine g_bipush dX6_readsHole_8 (by decide) ?_
    refine g_icmp_ne ⟨by omega, by omega⟩ ⟨by omega, by omega⟩ (tgt := 23) dX6_readsHole_10 rfl (fun h10 => absurd h10 (by omega)) (fun h10 => ?_)
    refine g_aload0 dX6_readsHole_13 ?_
    refine g_iconst dX6_readsHole_14 ?_
    refine g_aload0 dX6_readsHole_15 ?_
    refine f_geti (J := 17) rfl (by decide) rfl rfl fl_X6_205 dX6_readsHole_16 ?_
    rw [h17]
    refine f_cV2d (fails_0 h.2.1) rfl (by decide) rfl oY_X6_fails oI_X6_fails lk_X6_237 rfl dX6_readsHole_19 rfl (Or.inl rfl) ?_
    refine g_return rfl dX6_readsHole_22 ?_
    exact Rv.no (e := (3, q)) (by unfold rHole; rw [if_pos (by omega)]) (h.fail ⟨by decide, by decide⟩)
  · have hlo : R32 (if d 3 = 0 then 1 else wPl d (d 3 - 1) + 1) ∧ 0 ≤ (if d 3 = 0 then 1 else wPl d (d 3 - 1) + 1) ∧ (if d 3 = 0 then 1 else wPl d (d 3 - 1) + 1) ≤ 601 := by
      by_cases c0 : d 3 = 0
      · rw [if_pos c0]; exact ⟨⟨by decide, by decide⟩, by decide, by decide⟩
      · rw [if_neg c0]
        have := ho.hol (d 3 - 1) (by omega) (by omega)
        exact ⟨⟨by omega, by omega⟩, by omega, by omega⟩
    have rest : ∀ (a : Int) (u2 : Option Value), a + 1 = (if d 3 = 0 then 1 else wPl d (d 3 - 1) + 1) → FW g zX6_readsHole 0 0 (Rv l (PFm σ st) (PSm σ N st) (rHole (σ 105) N d q p)) 45 [some (.ref 92), some (iv (d 3)), some (iv a)] [] τ l := by
      intro a u2 ha
      rcases hr1 : rNum (σ 105) N (if d 3 = 0 then 1 else wPl d (d 3 - 1) + 1) (d 0 - 1) p with e | ⟨v, p1⟩
      · refine g_aload0 dX6_readsHole_45 ?_
        refine f_getr (r := 94) rfl (by decide) rfl rfl fl_X6_13 dX6_readsHole_46 ?_
        refine g_bipush dX6_readsHole_49 (by decide) ?_
        refine g_iconst dX6_readsHole_51 ?_
        refine g_iload1 dX6_readsHole_52 ?_
        refine g_imul dX6_readsHole_53 ?_
        refine g_iadd dX6_readsHole_54 ?_
        refine g_aload0 dX6_readsHole_55 ?_
        refine g_iload2 dX6_readsHole_56 ?_
        refine g_iconst dX6_readsHole_57 ?_
        refine g_iadd dX6_readsHole_58 ?_
        rw [ha]
        refine g_aload0 dX6_readsHole_59 ?_
        refine f_getr (r := 94) rfl (by decide) rfl rfl fl_X6_13 dX6_readsHole_60 ?_
        refine g_iconst dX6_readsHole_63 ?_
        refine f_iald rfl (by decide) ⟨by omega, by show _ < ((67 : Nat) : Int); omega⟩ dX6_readsHole_64 ?_
        rw [r0]
        refine g_iconst dX6_readsHole_65 ?_
        refine g_isub dX6_readsHole_66 ?_
        refine f_cV2q (number_n hT hln h hlo.1 ⟨by omega, by omega⟩ hr1) rfl (by decide) rfl oY_X6_number oI_X6_number lk_X6_250 rfl dX6_readsHole_67 (by omega) (by omega) rfl (Or.inl rfl) (fun σ67 l67 h67 => ?_)
        have el67 := h67.1
        subst el67
        have F1 := h67.2.1
        refine f_iast rfl (by decide) ⟨by omega, by show _ < ((67 : Nat) : Int); omega⟩ dX6_readsHole_70 ?_
        refine g_aload0 dX6_readsHole_71 ?_
        refine f_getr (r := 94) rfl (by decide) rfl rfl fl_X6_13 dX6_readsHole_72 ?_
        refine g_bipush dX6_readsHole_75 (by decide) ?_
        refine g_iconst dX6_readsHole_77 ?_
        refine g_iload1 dX6_readsHole_78 ?_
        refine g_imul dX6_readsHole_79 ?_
        refine g_iadd dX6_readsHole_80 ?_
        refine g_iconst dX6_readsHole_81 ?_
        refine g_iadd dX6_readsHole_82 ?_
        refine g_aload0 dX6_readsHole_83 ?_
        refine g_iconst dX6_readsHole_84 ?_
        refine g_bipush dX6_readsHole_85 (by decide) ?_
        refine f_cV2w (number_f F1.set) rfl (by decide) rfl oY_X6_number oI_X6_number lk_X6_250 rfl dX6_readsHole_87 rfl (Or.inl rfl) ?_
        refine f_iast rfl (by decide) ⟨by omega, by show _ < ((67 : Nat) : Int); omega⟩ dX6_readsHole_90 ?_
        refine g_aload0 dX6_readsHole_91 ?_
        refine f_getr (r := 94) rfl (by decide) rfl rfl fl_X6_13 dX6_readsHole_92 ?_
        refine g_iconst dX6_readsHole_95 ?_
        refine g_dup2 rfl rfl dX6_readsHole_96 ?_
        refine f_iald rfl (by decide) ⟨by omega, by show _ < ((67 : Nat) : Int); omega⟩ dX6_readsHole_97 ?_
        refine g_iconst dX6_readsHole_98 ?_
        refine g_iadd dX6_readsHole_99 ?_
        refine f_iast rfl (by decide) ⟨by omega, by show _ < ((67 : Nat) : Int); omega⟩ dX6_readsHole_100 ?_
        refine g_return rfl dX6_readsHole_101 ?_
        exact Rv.no (by unfold rHole; rw [if_neg (by omega)]; simp only [hr1]) F1.set.set.set
      · rcases hr2 : rNum (σ 105) N 2 15 p1 with e | ⟨w, p2⟩
        · refine g_aload0 dX6_readsHole_45 ?_
          refine f_getr (r := 94) rfl (by decide) rfl rfl fl_X6_13 dX6_readsHole_46 ?_
          refine g_bipush dX6_readsHole_49 (by decide) ?_
          refine g_iconst dX6_readsHole_51 ?_
          refine g_iload1 dX6_readsHole_52 ?_
          refine g_imul dX6_readsHole_53 ?_
          refine g_iadd dX6_readsHole_54 ?_
          refine g_aload0 dX6_readsHole_55 ?_
          refine g_iload2 dX6_readsHole_56 ?_
          refine g_iconst dX6_readsHole_57 ?_
          refine g_iadd dX6_readsHole_58 ?_
          rw [ha]
          refine g_aload0 dX6_readsHole_59 ?_
          refine f_getr (r := 94) rfl (by decide) rfl rfl fl_X6_13 dX6_readsHole_60 ?_
          refine g_iconst dX6_readsHole_63 ?_
          refine f_iald rfl (by decide) ⟨by omega, by show _ < ((67 : Nat) : Int); omega⟩ dX6_readsHole_64 ?_
          rw [r0]
          refine g_iconst dX6_readsHole_65 ?_
          refine g_isub dX6_readsHole_66 ?_
          refine f_cV2q (number_y hT hln h hlo.1 ⟨by omega, by omega⟩ hr1) rfl (by decide) rfl oY_X6_number oI_X6_number lk_X6_250 rfl dX6_readsHole_67 (by omega) (by omega) rfl (Or.inl rfl) (fun σ67 l67 h67 => ?_)
          have el67 := h67.1
          subst el67
          have Q1 := h67.2.1
          refine f_iast rfl (by decide) ⟨by omega, by show _ < ((67 : Nat) : Int); omega⟩ dX6_readsHole_70 ?_
          refine g_aload0 dX6_readsHole_71 ?_
          refine f_getr (r := 94) rfl (by decide) rfl rfl fl_X6_13 dX6_readsHole_72 ?_
          refine g_bipush dX6_readsHole_75 (by decide) ?_
          refine g_iconst dX6_readsHole_77 ?_
          refine g_iload1 dX6_readsHole_78 ?_
          refine g_imul dX6_readsHole_79 ?_
          refine g_iadd dX6_readsHole_80 ?_
          refine g_iconst dX6_readsHole_81 ?_
          refine g_iadd dX6_readsHole_82 ?_
          refine g_aload0 dX6_readsHole_83 ?_
          refine g_iconst dX6_readsHole_84 ?_
          refine g_bipush dX6_readsHole_85 (by decide) ?_
          refine f_cV2q (number_n hT hln Q1.set ⟨by decide, by decide⟩ ⟨by decide, by decide⟩ hr2) rfl (by decide) rfl oY_X6_number oI_X6_number lk_X6_250 rfl dX6_readsHole_87 (by omega) (by omega) rfl (Or.inl rfl) (fun σ87 l87 h87 => ?_)
          have el87 := h87.1
          subst el87
          have F2 := h87.2.1
          refine f_iast rfl (by decide) ⟨by omega, by show _ < ((67 : Nat) : Int); omega⟩ dX6_readsHole_90 ?_
          refine g_aload0 dX6_readsHole_91 ?_
          refine f_getr (r := 94) rfl (by decide) rfl rfl fl_X6_13 dX6_readsHole_92 ?_
          refine g_iconst dX6_readsHole_95 ?_
          refine g_dup2 rfl rfl dX6_readsHole_96 ?_
          refine f_iald rfl (by decide) ⟨by omega, by show _ < ((67 : Nat) : Int); omega⟩ dX6_readsHole_97 ?_
          refine g_iconst dX6_readsHole_98 ?_
          refine g_iadd dX6_readsHole_99 ?_
          refine f_iast rfl (by decide) ⟨by omega, by show _ < ((67 : Nat) : Int); omega⟩ dX6_readsHole_100 ?_
          refine g_return rfl dX6_readsHole_101 ?_
          exact Rv.no (by unfold rHole; rw [if_neg (by omega)]; simp only [hr1, hr2]) F2.set.set
        · refine g_aload0 dX6_readsHole_45 ?_
          refine f_getr (r := 94) rfl (by decide) rfl rfl fl_X6_13 dX6_readsHole_46 ?_
          refine g_bipush dX6_readsHole_49 (by decide) ?_
          refine g_iconst dX6_readsHole_51 ?_
          refine g_iload1 dX6_readsHole_52 ?_
          refine g_imul dX6_readsHole_53 ?_
          refine g_iadd dX6_readsHole_54 ?_
          refine g_aload0 dX6_readsHole_55 ?_
          refine g_iload2 dX6_readsHole_56 ?_
          refine g_iconst dX6_readsHole_57 ?_
          refine g_iadd dX6_readsHole_58 ?_
          rw [ha]
          refine g_aload0 dX6_readsHole_59 ?_
          refine f_getr (r := 94) rfl (by decide) rfl rfl fl_X6_13 dX6_readsHole_60 ?_
          refine g_iconst dX6_readsHole_63 ?_
          refine f_iald rfl (by decide) ⟨by omega, by show _ < ((67 : Nat) : Int); omega⟩ dX6_readsHole_64 ?_
          rw [r0]
          refine g_iconst dX6_readsHole_65 ?_
          refine g_isub dX6_readsHole_66 ?_
          refine f_cV2q (number_y hT hln h hlo.1 ⟨by omega, by omega⟩ hr1) rfl (by decide) rfl oY_X6_number oI_X6_number lk_X6_250 rfl dX6_readsHole_67 (by omega) (by omega) rfl (Or.inl rfl) (fun σ67 l67 h67 => ?_)
          have el67 := h67.1
          subst el67
          have Q1 := h67.2.1
          refine f_iast rfl (by decide) ⟨by omega, by show _ < ((67 : Nat) : Int); omega⟩ dX6_readsHole_70 ?_
          refine g_aload0 dX6_readsHole_71 ?_
          refine f_getr (r := 94) rfl (by decide) rfl rfl fl_X6_13 dX6_readsHole_72 ?_
          refine g_bipush dX6_readsHole_75 (by decide) ?_
          refine g_iconst dX6_readsHole_77 ?_
          refine g_iload1 dX6_readsHole_78 ?_
          refine g_imul dX6_readsHole_79 ?_
          refine g_iadd dX6_readsHole_80 ?_
          refine g_iconst dX6_readsHole_81 ?_
          refine g_iadd dX6_readsHole_82 ?_
          refine g_aload0 dX6_readsHole_83 ?_
          refine g_iconst dX6_readsHole_84 ?_
          refine g_bipush dX6_readsHole_85 (by decide) ?_
          refine f_cV2q (number_y hT hln Q1.set ⟨by decide, by decide⟩ ⟨by decide, by decide⟩ hr2) rfl (by decide) rfl oY_X6_number oI_X6_number lk_X6_250 rfl dX6_readsHole_87 (by omega) (by omega) rfl (Or.inl rfl) (fun σ87 l87 h87 => ?_)
          have el87 := h87.1
          subst el87
          have Q2 := h87.2.1
          refine f_iast rfl (by decide) ⟨by omega, by show _ < ((67 : Nat) : Int); omega⟩ dX6_readsHole_90 ?_
          refine g_aload0 dX6_readsHole_91 ?_
          refine f_getr (r := 94) rfl (by decide) rfl rfl fl_X6_13 dX6_readsHole_92 ?_
          refine g_iconst dX6_readsHole_95 ?_
          refine g_dup2 rfl rfl dX6_readsHole_96 ?_
          refine f_iald rfl (by decide) ⟨by omega, by show _ < ((67 : Nat) : Int); omega⟩ dX6_readsHole_97 ?_
          have S2 := Q2.set (k := 13 + 2 * d 3 + 1) (v := w)
          have r32 := S2.d (k := 3) (by decide) (by decide)
          rw [r32, su_ne (by omega), su_ne (by omega)]
          refine g_iconst dX6_readsHole_98 ?_
          refine g_iadd dX6_readsHole_99 ?_
          refine f_iast rfl (by decide) ⟨by omega, by show _ < ((67 : Nat) : Int); omega⟩ dX6_readsHole_100 ?_
          refine g_return rfl dX6_readsHole_101 ?_
          have S3 := S2.set (k := 3) (v := d 3 + 1)
          rw [show 13 + 2 * d 3 + 1 = 14 + 2 * d 3 from by omega] at S3 ⊢
          exact Rv.yes (by unfold rHole; rw [if_neg (by omega)]; simp only [hr1, hr2]) S3
    refine g_aload0 dX6_readsHole_0 ?_
    refine f_getr (r := 94) rfl (by decide) rfl rfl fl_X6_13 dX6_readsHole_1 ?_
    refine g_iconst dX6_readsHole_4 ?_
    refine f_iald rfl (by decide) ⟨by omega, by show _ < ((67 : Nat) : Int); omega⟩ dX6_readsHole_5 ?_
    rw [r3]
    refine g_istore1 dX6_readsHole_6 rfl (by decide) ?_
    refine g_iload1 dX6_readsHole_7 ?_
    refine g_bipush dX6_readsHole_8 (by decide) ?_
    refine g_icmp_ne ⟨by omega, by omega⟩ ⟨by omega, by omega⟩ (tgt := 23) dX6_readsHole_10 rfl (fun h10 => ?_) (fun h10 => absurd h10 (by omega))
    refine g_iload1 dX6_readsHole_23 ?_
    refine g_if_ne ⟨by omega, by omega⟩ (tgt := 31) dX6_readsHole_24 rfl (fun h24 => ?_) (fun h24 => ?_)
    · refine g_aload0 dX6_readsHole_31 ?_
      refine f_getr (r := 94) rfl (by decide) rfl rfl fl_X6_13 dX6_readsHole_32 ?_
      refine g_bipush dX6_readsHole_35 (by decide) ?_
      refine g_iconst dX6_readsHole_37 ?_
      refine g_iload1 dX6_readsHole_38 ?_
      refine g_imul dX6_readsHole_39 ?_
      refine g_iadd dX6_readsHole_40 ?_
      refine g_iconst dX6_readsHole_41 ?_
      refine g_isub dX6_readsHole_42 ?_
      refine f_iald rfl (by decide) ⟨by omega, by show _ < ((67 : Nat) : Int); omega⟩ dX6_readsHole_43 ?_
      rw [h.d (by omega) (by omega)]
      refine g_istore2 dX6_readsHole_44 rfl (by decide) ?_
      first
        | exact rest _ none (by rw [if_pos (by omega)]; rfl)
        | exact rest _ none (by
            rw [if_neg (by omega)]
            show d (13 + 2 * d 3 - 2) + 1 = d (13 + 2 * (((d 3 - 1).toNat : Nat) : Int)) + 1
            rw [Int.toNat_of_nonneg (by omega), show 13 + 2 * d 3 - 2 = 13 + 2 * (d 3 - 1) from by omega])
    · refine g_iconst dX6_readsHole_27 ?_
      refine g_goto (tgt := 44) dX6_readsHole_28 rfl ?_
      refine g_istore2 dX6_readsHole_44 rfl (by decide) ?_
      first
        | exact rest _ none (by rw [if_pos (by omega)]; rfl)
        | exact rest _ none (by
            rw [if_neg (by omega)]
            show d (13 + 2 * d 3 - 2) + 1 = d (13 + 2 * (((d 3 - 1).toNat : Nat) : Int)) + 1
            rw [Int.toNat_of_nonneg (by omega), show 13 + 2 * d 3 - 2 = 13 + 2 * (d 3 - 1) from by omega])
end C86
