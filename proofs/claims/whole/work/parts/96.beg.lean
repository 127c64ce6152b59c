/-! The memory behind the constructors; from the law's entry to its loop -/
section C96
def zD (n : Nat) : mC := .inl (3, n, .inr (.inr (.inr (.inl (fun _ => 0)))))
def s0R : Int → Int := fun j => if j = 0 then 300 else if j = 1 then 12 else if j = 2 then 30 else if j = 4 then 1 else if j = 5 then 1 else if j = 6 then 1 else if j = 7 then 2 else if j = 8 then 1 else 0
def s0S : Int → Int := fun j => if j = 0 then 300 else if j = 1 then 12 else if j = 2 then 30 else if j = 3 then 1 else if j = 4 then 1 else if j = 5 then 1 else if j = 6 then 2 else if j = 7 then 1 else 0
def s0M : Int → Int := fun j => if j = 21 then -1 else 0
def s0F : Int → Int := fun j => if j = 0 then 1 else 0
def isS0 (n : Nat) : Bool := (n == 1 || n == 11) || (decide (52 ≤ n) && decide (n < 92) && n % 4 == 0)
def σ0 : sT := fun n => if n = 93 then s0R else if n = 92 then s0M else if n = 17 then s0F else if isS0 n = true then s0S else fun _ => 0
def l0 : Nat → Nat := fun n => if n < 24 then 1 else 2
theorem z_I {n N L : Nat} {s : Int → Int} (hk : kd n = 0) (hL : L = N) (hs : s = fun _ => 0) : zI N = cellK n s L := by
  subst hL
  subst hs
  rw [cell_int hk]
  rfl
theorem z_L {n N L : Nat} {s : Int → Int} (hk : kd n = 1) (hL : L = N) (hs : s = fun _ => 0) : zL N = cellK n s L := by
  subst hL
  subst hs
  rw [cell_long hk]
  rfl
theorem z_Z {n N L : Nat} {s : Int → Int} (hk : kd n = 2) (hL : L = N) (hs : s = fun _ => 0) : zZ N = cellK n s L := by
  subst hL
  subst hs
  rw [cell_bool hk]
  rfl
theorem z_D {n N L : Nat} {s : Int → Int} (hk : kd n = 3) (hL : L = N) (hs : s = fun _ => 0) : zD N = cellK n s L := by
  subst hL
  subst hs
  rw [cell_dbl hk]
  rfl
theorem z_Q {n N b L : Nat} {s : Int → Int} (hk : kd n = 4) (hL : L = N) (hb : qb n = b) : aQ N b N = cellK n s L := by
  subst hL
  subst hb
  rw [cell_sts hk]
  rfl
theorem fld_l {c n : Nat} {s : Int → Int} {vs : List Value} (h : (tm c).zipIdx.map (fun q => if q.1 = 0 then iv (s q.2) else .ref (n + q.1)) = vs) : fldK c n s = vs := by
  rw [← h]
  unfold fldK
  rw [List.mapIdx_eq_zipIdx_map]
theorem z_O {n c L : Nat} {s : Int → Int} {vs : List Value} (hk : kd n = c + 10) (h : (tm c).zipIdx.map (fun q => if q.1 = 0 then iv (s q.2) else .ref (n + q.1)) = vs) : (.inr (c, vs) : mC) = cellK n s L := by
  rw [cell_obj hk, fld_l h]
theorem z_R : (.inl (0, 67, .inl (upd (upd (upd bgF 0 (Int32.ofInt 300)) 1 (Int32.ofInt 12)) 2 (Int32.ofInt 30))) : mC) = cellK 93 s0R 67 := by
  rw [cell_int rfl]
  refine congrArg (fun z => Sum.inl (0, 67, Sum.inl z)) (funext fun j => ?_)
  rcases j with _ | _ | _ | _ | _ | _ | _ | _ | _ | j
  · rfl
  · rfl
  · rfl
  · rfl
  · rfl
  · rfl
  · rfl
  · rfl
  · rfl
  · have e1 : s0R ((j + 1 + 1 + 1 + 1 + 1 + 1 + 1 + 1 + 1 : Nat) : Int) = 0 := by
      unfold s0R
      rw [if_neg (by omega), if_neg (by omega), if_neg (by omega), if_neg (by omega), if_neg (by omega), if_neg (by omega), if_neg (by omega), if_neg (by omega)]
    rw [e1]
    rfl
theorem rg110 : List.range 110 = [0, 1, 2, 3, 4, 5, 6, 7, 8, 9, 10, 11, 12, 13, 14, 15, 16, 17, 18, 19, 20, 21, 22, 23, 24, 25, 26, 27, 28, 29, 30, 31, 32, 33, 34, 35, 36, 37, 38, 39, 40, 41, 42, 43, 44, 45, 46, 47, 48, 49, 50, 51, 52, 53, 54, 55, 56, 57, 58, 59, 60, 61, 62, 63, 64, 65, 66, 67, 68, 69, 70, 71, 72, 73, 74, 75, 76, 77, 78, 79, 80, 81, 82, 83, 84, 85, 86, 87, 88, 89, 90, 91, 92, 93, 94, 95, 96, 97, 98, 99, 100, 101, 102, 103, 104, 105, 106, 107, 108, 109] := by decide +kernel
theorem mem0 : ([] : mM) ++ ((([] ++ mkHB) ++ mkMB) ++ [zL 1] ++ [zD 1]) = mem σ0 l0 := by
  unfold mem mkHB mkMB
  rw [rg110]
  simp only [List.nil_append, List.cons_append, List.map_cons, List.map_nil]
  refine congr (congrArg List.cons (z_O (c := 5) rfl rfl)) ?_
  refine congr (congrArg List.cons (z_O (c := 3) rfl rfl)) ?_
  refine congr (congrArg List.cons (z_I rfl rfl rfl)) ?_
  refine congr (congrArg List.cons (z_I rfl rfl rfl)) ?_
  refine congr (congrArg List.cons (z_I rfl rfl rfl)) ?_
  refine congr (congrArg List.cons (z_Q rfl rfl rfl)) ?_
  refine congr (congrArg List.cons (z_I rfl rfl rfl)) ?_
  refine congr (congrArg List.cons (z_Q rfl rfl rfl)) ?_
  refine congr (congrArg List.cons (z_I rfl rfl rfl)) ?_
  refine congr (congrArg List.cons (z_O (c := 2) rfl rfl)) ?_
  refine congr (congrArg List.cons (z_I rfl rfl rfl)) ?_
  refine congr (congrArg List.cons (z_O (c := 3) rfl rfl)) ?_
  refine congr (congrArg List.cons (z_I rfl rfl rfl)) ?_
  refine congr (congrArg List.cons (z_I rfl rfl rfl)) ?_
  refine congr (congrArg List.cons (z_I rfl rfl rfl)) ?_
  refine congr (congrArg List.cons (z_I rfl rfl rfl)) ?_
  refine congr (congrArg List.cons (z_I rfl rfl rfl)) ?_
  refine congr (congrArg List.cons (z_O (c := 1) rfl rfl)) ?_
  refine congr (congrArg List.cons (z_I rfl rfl rfl)) ?_
  refine congr (congrArg List.cons (z_I rfl rfl rfl)) ?_
  refine congr (congrArg List.cons (z_I rfl rfl rfl)) ?_
  refine congr (congrArg List.cons (z_I rfl rfl rfl)) ?_
  refine congr (congrArg List.cons (z_I rfl rfl rfl)) ?_
  refine congr (congrArg List.cons (z_I rfl rfl rfl)) ?_
  refine congr (congrArg List.cons (z_O (c := 0) rfl rfl)) ?_
  refine congr (congrArg List.cons (z_I rfl rfl rfl)) ?_
  refine congr (congrArg List.cons (z_I rfl rfl rfl)) ?_
  refine congr (congrArg List.cons (z_I rfl rfl rfl)) ?_
  refine congr (congrArg List.cons (z_I rfl rfl rfl)) ?_
  refine congr (congrArg List.cons (z_I rfl rfl rfl)) ?_
  refine congr (congrArg List.cons (z_I rfl rfl rfl)) ?_
  refine congr (congrArg List.cons (z_I rfl rfl rfl)) ?_
  refine congr (congrArg List.cons (z_O (c := 0) rfl rfl)) ?_
  refine congr (congrArg List.cons (z_I rfl rfl rfl)) ?_
  refine congr (congrArg List.cons (z_I rfl rfl rfl)) ?_
  refine congr (congrArg List.cons (z_I rfl rfl rfl)) ?_
  refine congr (congrArg List.cons (z_I rfl rfl rfl)) ?_
  refine congr (congrArg List.cons (z_I rfl rfl rfl)) ?_
  refine congr (congrArg List.cons (z_I rfl rfl rfl)) ?_
  refine congr (congrArg List.cons (z_I rfl rfl rfl)) ?_
  refine congr (congrArg List.cons (z_O (c := 4) rfl rfl)) ?_
  refine congr (congrArg List.cons (z_I rfl rfl rfl)) ?_
  refine congr (congrArg List.cons (z_I rfl rfl rfl)) ?_
  refine congr (congrArg List.cons (z_I rfl rfl rfl)) ?_
  refine congr (congrArg List.cons (z_I rfl rfl rfl)) ?_
  refine congr (congrArg List.cons (z_I rfl rfl rfl)) ?_
  refine congr (congrArg List.cons (z_O (c := 4) rfl rfl)) ?_
  refine congr (congrArg List.cons (z_I rfl rfl rfl)) ?_
  refine congr (congrArg List.cons (z_I rfl rfl rfl)) ?_
  refine congr (congrArg List.cons (z_I rfl rfl rfl)) ?_
  refine congr (congrArg List.cons (z_I rfl rfl rfl)) ?_
  refine congr (congrArg List.cons (z_I rfl rfl rfl)) ?_
  refine congr (congrArg List.cons (z_O (c := 3) rfl rfl)) ?_
  refine congr (congrArg List.cons (z_I rfl rfl rfl)) ?_
  refine congr (congrArg List.cons (z_I rfl rfl rfl)) ?_
  refine congr (congrArg List.cons (z_I rfl rfl rfl)) ?_
  refine congr (congrArg List.cons (z_O (c := 3) rfl rfl)) ?_
  refine congr (congrArg List.cons (z_I rfl rfl rfl)) ?_
  refine congr (congrArg List.cons (z_I rfl rfl rfl)) ?_
  refine congr (congrArg List.cons (z_I rfl rfl rfl)) ?_
  refine congr (congrArg List.cons (z_O (c := 3) rfl rfl)) ?_
  refine congr (congrArg List.cons (z_I rfl rfl rfl)) ?_
  refine congr (congrArg List.cons (z_I rfl rfl rfl)) ?_
  refine congr (congrArg List.cons (z_I rfl rfl rfl)) ?_
  refine congr (congrArg List.cons (z_O (c := 3) rfl rfl)) ?_
  refine congr (congrArg List.cons (z_I rfl rfl rfl)) ?_
  refine congr (congrArg List.cons (z_I rfl rfl rfl)) ?_
  refine congr (congrArg List.cons (z_I rfl rfl rfl)) ?_
  refine congr (congrArg List.cons (z_O (c := 3) rfl rfl)) ?_
  refine congr (congrArg List.cons (z_I rfl rfl rfl)) ?_
  refine congr (congrArg List.cons (z_I rfl rfl rfl)) ?_
  refine congr (congrArg List.cons (z_I rfl rfl rfl)) ?_
  refine congr (congrArg List.cons (z_O (c := 3) rfl rfl)) ?_
  refine congr (congrArg List.cons (z_I rfl rfl rfl)) ?_
  refine congr (congrArg List.cons (z_I rfl rfl rfl)) ?_
  refine congr (congrArg List.cons (z_I rfl rfl rfl)) ?_
  refine congr (congrArg List.cons (z_O (c := 3) rfl rfl)) ?_
  refine congr (congrArg List.cons (z_I rfl rfl rfl)) ?_
  refine congr (congrArg List.cons (z_I rfl rfl rfl)) ?_
  refine congr (congrArg List.cons (z_I rfl rfl rfl)) ?_
  refine congr (congrArg List.cons (z_O (c := 3) rfl rfl)) ?_
  refine congr (congrArg List.cons (z_I rfl rfl rfl)) ?_
  refine congr (congrArg List.cons (z_I rfl rfl rfl)) ?_
  refine congr (congrArg List.cons (z_I rfl rfl rfl)) ?_
  refine congr (congrArg List.cons (z_O (c := 3) rfl rfl)) ?_
  refine congr (congrArg List.cons (z_I rfl rfl rfl)) ?_
  refine congr (congrArg List.cons (z_I rfl rfl rfl)) ?_
  refine congr (congrArg List.cons (z_I rfl rfl rfl)) ?_
  refine congr (congrArg List.cons (z_O (c := 3) rfl rfl)) ?_
  refine congr (congrArg List.cons (z_I rfl rfl rfl)) ?_
  refine congr (congrArg List.cons (z_I rfl rfl rfl)) ?_
  refine congr (congrArg List.cons (z_I rfl rfl rfl)) ?_
  refine congr (congrArg List.cons (z_O (c := 6) rfl rfl)) ?_
  refine congr (congrArg List.cons (z_R)) ?_
  refine congr (congrArg List.cons (z_I rfl rfl rfl)) ?_
  refine congr (congrArg List.cons (z_I rfl rfl rfl)) ?_
  refine congr (congrArg List.cons (z_I rfl rfl rfl)) ?_
  refine congr (congrArg List.cons (z_Z rfl rfl rfl)) ?_
  refine congr (congrArg List.cons (z_L rfl rfl rfl)) ?_
  refine congr (congrArg List.cons (z_I rfl rfl rfl)) ?_
  refine congr (congrArg List.cons (z_I rfl rfl rfl)) ?_
  refine congr (congrArg List.cons (z_I rfl rfl rfl)) ?_
  refine congr (congrArg List.cons (z_I rfl rfl rfl)) ?_
  refine congr (congrArg List.cons (z_I rfl rfl rfl)) ?_
  refine congr (congrArg List.cons (z_I rfl rfl rfl)) ?_
  refine congr (congrArg List.cons (z_I rfl rfl rfl)) ?_
  refine congr (congrArg List.cons (z_I rfl rfl rfl)) ?_
  refine congr (congrArg List.cons (z_I rfl rfl rfl)) ?_
  refine congr (congrArg List.cons (z_L rfl rfl rfl)) ?_
  refine congr (congrArg List.cons (z_D rfl rfl rfl)) ?_
  rfl
theorem Jv0 : Jv (cB 0) σ0 l0 := by
  have h3 : σ0 93 3 = 0 := rfl
  have h9 : σ0 93 9 = 0 := rfl
  refine ⟨⟨0, ⟨⟨⟨⟨by decide +kernel, by decide +kernel⟩, ⟨by decide +kernel, by decide +kernel⟩, ⟨by decide +kernel, by decide +kernel⟩, ⟨by decide +kernel, by decide +kernel⟩, ⟨by decide +kernel, by decide +kernel⟩, ⟨by decide +kernel, by decide +kernel⟩, ⟨by decide +kernel, by decide +kernel⟩, ⟨by decide +kernel, by decide +kernel⟩, ⟨by decide +kernel, by decide +kernel⟩, ⟨by decide +kernel, by decide +kernel⟩, ⟨by decide +kernel, by decide +kernel⟩, ⟨by decide +kernel, by decide +kernel⟩, ⟨by decide +kernel, Or.inl rfl⟩, fun k a b => by omega, fun k a b => by omega⟩, ⟨rfl, rfl, rfl, rfl, rfl, rfl, rfl, rfl, rfl, rfl, rfl, rfl, rfl, fun k a b => by omega, fun k a b => by omega, fun k a b => by omega⟩, ⟨⟨by decide +kernel, by decide +kernel⟩, ⟨rfl, rfl, rfl, rfl, rfl⟩, fun p a b => ?_, ⟨rfl, rfl, rfl⟩, ⟨by decide +kernel, by decide +kernel⟩, ⟨rfl, rfl, rfl⟩, ⟨by decide +kernel, by decide +kernel⟩, ⟨by decide +kernel, by decide +kernel⟩, ⟨by decide +kernel, by decide +kernel⟩, ⟨by decide +kernel, by decide +kernel⟩, ⟨by decide +kernel, by decide +kernel⟩, ⟨by decide +kernel, by decide +kernel⟩, ⟨by decide +kernel, by decide +kernel⟩, fun z => ?_, fun z => ?_, fun z => ?_⟩⟩, ⟨0, by decide, rfl, fun j hj => absurd hj (Nat.not_lt_zero j)⟩, rfl, by decide⟩, rfl⟩, fun k hk => Or.inl ⟨rfl, rfl⟩, ⟨0, ⟨by decide, fun j hj => absurd hj (Nat.not_lt_zero j)⟩, rfl, rfl, rfl⟩, ⟨0, 0, ⟨by decide, by decide⟩, rfl, rfl, rfl, rfl⟩, ⟨[], by decide, rfl, fun j x h => by simp at h, rfl, fun j x h => by simp at h⟩⟩
  · have e : ln l0 18 = 1 := rfl
    rw [e] at b
    have e0 : p = 0 := by omega
    subst e0
    exact ⟨by decide +kernel, by decide +kernel, by decide +kernel⟩
  · have h0 : σ0 0 15 = 0 := rfl
    rw [h0] at z
    omega
  · have h0 : σ0 0 15 = 0 := rfl
    rw [h0] at z
    omega
  · have h0 : σ0 0 15 = 0 := rfl
    rw [h0] at z
    omega
theorem lwRm0 : pcL l0 + (512 - 0) ≤ 601024 - 1 - 91 - 1 - 15 - 1 - 1 ∧ psL l0 + 6 * (512 - 0) ≤ 7293033 - 16 - 1945 - 26 - 193955 - 1 - 1 := by decide +kernel
theorem n_newD {g : gT} {y : yT} {k n : Nat} {Φ : mO → mM → Prop} {pc : Nat} {L : List (Option Value)} {st : List Value} {P cs : mM} {n0 j N q : Nat} (hn : P.length = n0) (hj : cs.length = j) (hq : n0 + j = q) (hk2 : 2 ≤ yK y) (hb : q < KB) (hok : okL q L ∧ okS q st) (hN : N ≤ 1000000) (hd : decode (yB y) pc = .ok (.newarray .double, 2)) (hk1 : 1 ≤ k) (hn1 : N ≤ n) (h : GW g y (k - 1) (n - N) Φ (pc + 2) L (.ref q :: st) (P ++ (cs ++ [zD N]))) : GW g y k n Φ pc L (iv N :: st) (P ++ cs) := by
  have e : (P ++ cs).length = q := by rw [List.length_append, hn, hj, hq]
  refine g_newD hk2 (by rw [e]; exact hb) (by rw [e]; exact hok) hN hd hk1 hn1 ?_
  rw [e, List.append_assoc]; exact h
theorem lw_beg {g : gT} {Φ : mO → mM → Prop} (hg : gN g ≤ 2048) (hΦ : ∀ M, Φ (.inl (some (iv 1))) M) : GW g zL_law 601024 7293033 Φ 0 [some (.ref (KB + 1)), none, none, none, none, none, none, none, none, none] [] [] := by
  have hn : ([] : mM).length = 0 := rfl
  show GW g zL_law 601024 7293033 Φ 0 [some (.ref (KB + 1)), none, none, none, none, none, none, none, none, none] [] (([] : mM) ++ [])
  refine n_new (q := 0) (fs := nw5) hn rfl rfl (by decide) (by decide) ⟨bL_of rfl, bS_of rfl⟩ (ci := 5) rfl (tt1 19 rfl rfl) ⟨(tt1 20 rfl rfl), (tt1 1 rfl rfl)⟩ nwD5 nwR5 dL_law_0 (Nat.le_of_ble_eq_true rfl) (Nat.le_of_ble_eq_true rfl) ?_
  refine g_dup rfl dL_law_3 ?_
  refine n_call (q := 0) (R := mkHB) (fun Q hQ => mkH_ok hQ) hn rfl rfl oY_X5_init oN_X5_init lk_L_129 rfl dL_law_4 (Nat.le_of_ble_eq_true rfl) (Nat.le_of_ble_eq_true rfl) rfl ⟨bL_of rfl, bS_of rfl⟩ ?_
  refine g_astore1 dL_law_7 rfl (by decide) ?_
  refine n_new (q := 92) (fs := nw6) hn rfl rfl (by decide) (by decide) ⟨bL_of rfl, bS_of rfl⟩ (ci := 6) rfl (tt5 207 rfl rfl) ⟨(tt5 208 rfl rfl), (tt1 7 rfl rfl)⟩ nwD6 nwR6 dL_law_8 (Nat.le_of_ble_eq_true rfl) (Nat.le_of_ble_eq_true rfl) ?_
  refine g_dup rfl dL_law_11 ?_
  refine n_call (q := 92) (R := mkMB) (fun Q hQ => mkM_ok hQ) hn rfl rfl oY_X6_init oN_X6_init lk_L_132 rfl dL_law_12 (Nat.le_of_ble_eq_true rfl) (Nat.le_of_ble_eq_true rfl) rfl ⟨bL_of rfl, bS_of rfl⟩ ?_
  refine g_astore2 dL_law_15 rfl (by decide) ?_
  refine g_iconst dL_law_16 ?_
  refine n_newL (N := 1) (q := 108) hn rfl rfl (by decide) (by decide) ⟨bL_of rfl, bS_of rfl⟩ (by decide) dL_law_17 (Nat.le_of_ble_eq_true rfl) (Nat.le_of_ble_eq_true rfl) ?_
  refine g_astore3 dL_law_19 rfl (by decide) ?_
  refine g_iconst dL_law_20 ?_
  refine n_newD (N := 1) (q := 109) hn rfl rfl (by decide) (by decide) ⟨bL_of rfl, bS_of rfl⟩ (by decide) dL_law_21 (Nat.le_of_ble_eq_true rfl) (Nat.le_of_ble_eq_true rfl) ?_
  refine g_astore4 dL_law_23 rfl (by decide) ?_
  refine g_iconst dL_law_25 ?_
  refine g_istore5 dL_law_26 rfl (by decide) ?_
  rw [mem0]
  exact lw_loop hg hΦ 512 0 rfl 0 rfl σ0 l0 _ _ Jv0 lwRm0.1 lwRm0.2
end C96
