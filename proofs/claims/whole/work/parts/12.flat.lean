/-! The flat memory behind the constructors: 110 cells of fixed names; all their numbers in one function. -/
section GF12
def KDL : List Nat := [15, 13, 0, 0, 0, 4, 0, 4, 0, 12, 0, 13, 0, 0, 0, 0, 0, 11, 0, 0, 0, 0, 0, 0, 10, 0, 0, 0, 0, 0, 0, 0, 10, 0, 0, 0, 0, 0, 0, 0, 14, 0, 0, 0, 0, 0, 14, 0, 0, 0, 0, 0, 13, 0, 0, 0, 13, 0, 0, 0, 13, 0, 0, 0, 13, 0, 0, 0, 13, 0, 0, 0, 13, 0, 0, 0, 13, 0, 0, 0, 13, 0, 0, 0, 13, 0, 0, 0, 13, 0, 0, 0, 16, 0, 0, 0, 0, 2, 1, 0, 0, 0, 0, 0, 0, 0, 0, 0, 1, 3]
def LNL : List Nat := [0, 0, 7, 7, 40, 8, 8, 2, 2, 0, 400, 0, 7, 7, 40, 4, 120, 0, 0, 0, 0, 0, 0, 49, 0, 26, 25, 25, 25, 0, 0, 0, 0, 26, 25, 25, 25, 0, 0, 0, 0, 40, 40, 40, 0, 0, 0, 40, 40, 40, 0, 0, 0, 7, 7, 40, 0, 7, 7, 40, 0, 7, 7, 40, 0, 7, 7, 40, 0, 7, 7, 40, 0, 7, 7, 40, 0, 7, 7, 40, 0, 7, 7, 40, 0, 7, 7, 40, 0, 7, 7, 40, 0, 67, 67, 536, 134, 2, 49, 4374, 4374, 4374, 174960, 4374, 40, 400, 4, 200, 1, 1]
def kd (n : Nat) : Nat := KDL.getD n 0
/-- the fields of each class: 0 an int, d > 0 a reference to the cell d places on -/
def tm (c : Nat) : List Nat := match c with
  | 0 => [1, 2, 3, 4, 5, 6, 7]
  | 1 => [0, 1, 2, 3, 4, 5, 6]
  | 2 => [1, 0, 0, 0, 0, 2, 0, 0, 0, 0, 0, 6]
  | 3 => [0, 0, 0, 0, 0, 0, 0, 0, 0, 0, 0, 0, 0, 1, 2, 3]
  | 4 => [0, 1, 2, 3, 4, 5]
  | 5 => [1, 5, 6, 0, 0, 7, 8, 9, 16, 0, 17, 24, 32, 40, 46, 0]
  | _ => [1, 2, 3, 4, 5, 0, 0, 6, 7, 8, 9, 10, 11, 12, 13, 0, 0, 0, 0, 0, 0, 0, 0, 14, 15, 0]
def ln (l : Nat → Nat) (n : Nat) : Nat := if ownr n = none then LNL.getD n 0 else min (l n) 400000
def qb (n : Nat) : Nat := if n = 5 then 52 else 84
def fldK (c n : Nat) (s : Int → Int) : List Value := (tm c).mapIdx (fun j d => if d = 0 then iv (s j) else .ref (n + d))
def cellK (n : Nat) (s : Int → Int) (l : Nat) : mC :=
  if kd n = 0 then .inl (0, l, .inl (fun j => Int32.ofInt (s j)))
  else if kd n = 1 then .inl (1, l, .inr (.inl (fun j => Int64.ofInt (s j))))
  else if kd n = 2 then .inl (2, l, .inl (fun j => Int32.ofInt (s j)))
  else if kd n = 3 then .inl (3, l, .inr (.inr (.inr (.inl (fun j => UInt64.ofNat (s j).toNat)))))
  else if kd n = 4 then .inl (4, l, .inr (.inr (.inr (.inr (fun j => if j < l then some (qb n + 4 * j) else none)))))
  else .inr (kd n - 10, fldK (kd n - 10) n s)
abbrev sT : Type := Nat → Int → Int
def mem (σ : sT) (l : Nat → Nat) : mM := (List.range 110).map (fun n => cellK n (σ n) (ln l n))
def up (σ : sT) (n : Nat) (j v : Int) : sT := fun a b => if a = n ∧ b = j then v else σ a b
theorem up_eq {σ : sT} {n : Nat} {j v : Int} : up σ n j v n j = v := if_pos ⟨rfl, rfl⟩
theorem up_ne {σ : sT} {n a : Nat} {j b v : Int} (h : ¬ (a = n ∧ b = j)) : up σ n j v a b = σ a b := if_neg h
theorem up_n {σ : sT} {n a : Nat} {j v : Int} (h : a ≠ n) : up σ n j v a = σ a := funext fun _ => if_neg fun q => h q.1
theorem mem_len (σ : sT) (l : Nat → Nat) : (mem σ l).length = 110 := by unfold mem; simp
theorem mem_get {σ : sT} {l : Nat → Nat} {n : Nat} (hn : n < 110) : (mem σ l)[n]? = some (cellK n (σ n) (ln l n)) := by
  unfold mem
  rw [List.getElem?_map, List.getElem?_range hn]
  rfl
theorem mem_set {σ σ' : sT} {l l' : Nat → Nat} {n : Nat} {c : mC} (hn : n < 110) (hc : c = cellK n (σ' n) (ln l' n)) (hs : ∀ m, m ≠ n → σ' m = σ m) (hl : ∀ m, m ≠ n → ln l' m = ln l m) : (mem σ l).set n c = mem σ' l' := by
  refine List.ext_getElem? fun j => ?_
  rw [List.getElem?_set]
  by_cases hj : n = j
  · subst hj
    rw [if_pos rfl, mem_len, if_pos hn, mem_get hn, hc]
  · rw [if_neg hj]
    by_cases hj2 : j < 110
    · rw [mem_get hj2, mem_get hj2, hs j (fun e => hj e.symm), hl j (fun e => hj e.symm)]
    · rw [List.getElem?_eq_none (by rw [mem_len]; omega), List.getElem?_eq_none (by rw [mem_len]; omega)]
theorem ln_le (l : Nat → Nat) (n : Nat) : ln l n ≤ 400000 := by
  unfold ln
  split
  · by_cases h : n < 110
    · have h1 : ∀ n, n < 110 → LNL.getD n 0 ≤ 400000 := by decide +kernel
      exact h1 n h
    · have e1 : LNL.length = 110 := by decide +kernel
      have : LNL.getD n 0 = 0 := by rw [List.getD_eq_getElem?_getD, List.getElem?_eq_none (by omega)]; rfl
      omega
  · omega
theorem fldK_get {c n j d : Nat} {s : Int → Int} (h : (tm c)[j]? = some d) : (fldK c n s)[j]? = some (if d = 0 then iv (s j) else .ref (n + d)) := by
  unfold fldK
  rw [List.getElem?_mapIdx, h]
  rfl
theorem fldK_set {c n j : Nat} {s : Int → Int} {x : Int} (h : (tm c)[j]? = some 0) : (fldK c n s).set j (iv x) = fldK c n (fun b => if b = j then x else s b) := by
  refine List.ext_getElem? fun i => ?_
  rw [List.getElem?_set]
  have hl : (fldK c n s).length = (tm c).length := by unfold fldK; simp
  by_cases hi : j = i
  · subst hi
    rw [if_pos rfl, hl, if_pos (List.getElem?_eq_some_iff.mp h).1, fldK_get h, if_pos rfl, if_pos rfl]
  · rw [if_neg hi]
    cases hm : (tm c)[i]? with
    | none =>
      rw [List.getElem?_eq_none (by rw [hl]; exact List.getElem?_eq_none_iff.mp hm), List.getElem?_eq_none (by unfold fldK; simp; exact List.getElem?_eq_none_iff.mp hm)]
    | some d =>
      rw [fldK_get hm, fldK_get hm]
      have : ¬ ((i : Int) = (j : Int)) := by omega
      rw [if_neg this]
def fΦ (Ψ : mO → sT → (Nat → Nat) → Prop) : mO → mM → Prop := fun o M => ∃ σ l, M = mem σ l ∧ Ψ o σ l
abbrev FW (g : gT) (y : yT) (k n : Nat) (Ψ : mO → sT → (Nat → Nat) → Prop) (pc : Nat) (L : List (Option Value)) (st : List Value) (σ : sT) (l : Nat → Nat) : Prop := GW g y k n (fΦ Ψ) pc L st (mem σ l)
variable {g : gT} {y : yT} {k n : Nat} {Φ : mO → mM → Prop} {pc : Nat} {L : List (Option Value)} {st : List Value} {σ : sT} {l : Nat → Nat}
theorem cell_obj {o c : Nat} {s : Int → Int} {len : Nat} (h : kd o = c + 10) : cellK o s len = .inr (c, fldK c o s) := by
  unfold cellK
  rw [if_neg (by omega), if_neg (by omega), if_neg (by omega), if_neg (by omega), if_neg (by omega), h, Nat.add_sub_cancel]
theorem cell_int {o : Nat} {s : Int → Int} {len : Nat} (h : kd o = 0) : cellK o s len = .inl (0, len, .inl (fun j => Int32.ofInt (s j))) := if_pos h
theorem cell_long {o : Nat} {s : Int → Int} {len : Nat} (h : kd o = 1) : cellK o s len = .inl (1, len, .inr (.inl (fun j => Int64.ofInt (s j)))) := by
  unfold cellK; rw [if_neg (by omega), if_pos h]
theorem cell_bool {o : Nat} {s : Int → Int} {len : Nat} (h : kd o = 2) : cellK o s len = .inl (2, len, .inl (fun j => Int32.ofInt (s j))) := by
  unfold cellK; rw [if_neg (by omega), if_neg (by omega), if_pos h]
theorem cell_dbl {o : Nat} {s : Int → Int} {len : Nat} (h : kd o = 3) : cellK o s len = .inl (3, len, .inr (.inr (.inr (.inl (fun j => UInt64.ofNat (s j).toNat))))) := by
  unfold cellK; rw [if_neg (by omega), if_neg (by omega), if_neg (by omega), if_pos h]
theorem cell_sts {o : Nat} {s : Int → Int} {len : Nat} (h : kd o = 4) : cellK o s len = .inl (4, len, .inr (.inr (.inr (.inr (fun j => if j < len then some (qb o + 4 * j) else none))))) := by
  unfold cellK; rw [if_neg (by omega), if_neg (by omega), if_neg (by omega), if_neg (by omega), if_pos h]
theorem f_geti {o c idx j : Nat} {J : Int} (hk : kd o = c + 10) (ho : o < 110) (hJ : (j : Int) = J) (hj : (tm c)[j]? = some 0) (hf : FL (yN y).cls idx c j) (hd : decode (yB y) pc = .ok (.getfield idx, 3)) (h : GW g y k n Φ (pc + 3) L (iv (σ o J) :: st) (mem σ l)) : GW g y k n Φ pc L (.ref o :: st) (mem σ l) := by
  subst hJ
  exact g_get hf ((mem_get ho).trans (congrArg some (cell_obj hk))) ((fldK_get hj).trans (by rw [if_pos rfl])) hd h
theorem f_getr {o c idx j d r : Nat} (hk : kd o = c + 10) (ho : o < 110) (hj : (tm c)[j]? = some (d + 1)) (hr : o + (d + 1) = r) (hf : FL (yN y).cls idx c j) (hd : decode (yB y) pc = .ok (.getfield idx, 3)) (h : GW g y k n Φ (pc + 3) L (.ref r :: st) (mem σ l)) : GW g y k n Φ pc L (.ref o :: st) (mem σ l) :=
  g_get hf ((mem_get ho).trans (congrArg some (cell_obj hk))) ((fldK_get hj).trans (by rw [if_neg (by omega), hr])) hd h
theorem up_fun {σ : sT} {o : Nat} {j x : Int} : up σ o j x o = fun b => if b = j then x else σ o b := by
  funext b
  unfold up
  by_cases h : b = j
  · rw [if_pos ⟨rfl, h⟩, if_pos h]
  · rw [if_neg (fun q => h q.2), if_neg h]
theorem f_puti {o c idx j : Nat} {J x : Int} (hk : kd o = c + 10) (ho : o < 110) (hJ : (j : Int) = J) (hj : (tm c)[j]? = some 0) (hf : FL (yN y).cls idx c j) (hty : ty_of c j = .int) (hfin : ∀ C T N, CL[c]? = some (C, T, N) → (T j).2.2.2 = false) (hd : decode (yB y) pc = .ok (.putfield idx, 3)) (h : GW g y k n Φ (pc + 3) L st (mem (up σ o J x) l)) : GW g y k n Φ pc L (iv x :: .ref o :: st) (mem σ l) := by
  subst hJ
  refine g_put hf hfin ((mem_get ho).trans (congrArg some (cell_obj hk))) ⟨rfl, fun q ow h1 => by cases h1⟩ (fun ν => by rw [hty]; rfl) (fun ν => by rw [hty]; rfl) (by unfold fldK; simp; exact (List.getElem?_eq_some_iff.mp hj).1) hd ?_
  rw [mem_set (σ' := up σ o j x) (l' := l) ho (by rw [cell_obj hk, fldK_set hj, up_fun]) (fun m hm => up_n hm) (fun _ _ => rfl)]
  exact h
theorem f_putz {o c idx j : Nat} {J x : Int} (hx : x = 0 ∨ x = 1) (hk : kd o = c + 10) (ho : o < 110) (hJ : (j : Int) = J) (hj : (tm c)[j]? = some 0) (hf : FL (yN y).cls idx c j) (hty : ty_of c j = .boolean) (hfin : ∀ C T N, CL[c]? = some (C, T, N) → (T j).2.2.2 = false) (hd : decode (yB y) pc = .ok (.putfield idx, 3)) (h : GW g y k n Φ (pc + 3) L st (mem (up σ o J x) l)) : GW g y k n Φ pc L (iv x :: .ref o :: st) (mem σ l) := by
  subst hJ
  refine g_put hf hfin ((mem_get ho).trans (congrArg some (cell_obj hk))) ⟨rfl, fun q ow h1 => by cases h1⟩ (fun ν => by rw [hty]; rcases hx with rfl | rfl <;> rfl) (fun ν => by rw [hty]; rcases hx with rfl | rfl <;> rfl) (by unfold fldK; simp; exact (List.getElem?_eq_some_iff.mp hj).1) hd ?_
  rw [mem_set (σ' := up σ o j x) (l' := l) ho (by rw [cell_obj hk, fldK_set hj, up_fun]) (fun m hm => up_n hm) (fun _ _ => rfl)]
  exact h
theorem ix_ok {i : Int} {n : Nat} {l : Nat → Nat} (h : 0 ≤ i ∧ i < ln l n) : i ≤ 2147483647 := by
  have := ln_le l n
  omega
theorem f_iald {o : Nat} {i : Int} (hk : kd o = 0) (ho : o < 110) (hi : 0 ≤ i ∧ i < ln l o) (hd : decode (yB y) pc = .ok (.iaload, 1)) (h : GW g y k n Φ (pc + 1) L (iv (σ o i) :: st) (mem σ l)) : GW g y k n Φ pc L (iv i :: .ref o :: st) (mem σ l) := by
  refine g_iald ((mem_get ho).trans (congrArg some (cell_int hk))) hi (ix_ok hi) hd ?_
  rw [Int.toNat_of_nonneg hi.1]
  exact h
theorem upd_ofInt {s : Int → Int} {i x : Int} (hi : 0 ≤ i) : upd (fun j => Int32.ofInt (s j)) i.toNat (Int32.ofInt x) = fun (j : Nat) => Int32.ofInt (if (j : Int) = i then x else s j) := by
  funext j
  unfold upd
  by_cases h : j = i.toNat
  · rw [if_pos h, if_pos (by omega)]
  · rw [if_neg h, if_neg (by omega)]
theorem f_iast {o : Nat} {i x : Int} (hk : kd o = 0) (ho : o < 110) (hi : 0 ≤ i ∧ i < ln l o) (hd : decode (yB y) pc = .ok (.iastore, 1)) (h : GW g y k n Φ (pc + 1) L st (mem (up σ o i x) l)) : GW g y k n Φ pc L (iv x :: iv i :: .ref o :: st) (mem σ l) := by
  refine g_iast ((mem_get ho).trans (congrArg some (cell_int hk))) hi (ix_ok hi) hd ?_
  rw [mem_set (σ' := up σ o i x) (l' := l) ho (by rw [cell_int hk, upd_ofInt hi.1, up_fun]) (fun m hm => up_n hm) (fun _ _ => rfl)]
  exact h
theorem f_lald {o : Nat} {i : Int} (hk : kd o = 1) (ho : o < 110) (hi : 0 ≤ i ∧ i < ln l o) (hd : decode (yB y) pc = .ok (.laload, 1)) (h : GW g y k n Φ (pc + 1) L (lg (σ o i) :: st) (mem σ l)) : GW g y k n Φ pc L (iv i :: .ref o :: st) (mem σ l) := by
  refine g_lald ((mem_get ho).trans (congrArg some (cell_long hk))) hi (ix_ok hi) hd ?_
  rw [Int.toNat_of_nonneg hi.1]
  exact h
theorem f_last {o : Nat} {i x : Int} (hk : kd o = 1) (ho : o < 110) (hi : 0 ≤ i ∧ i < ln l o) (hd : decode (yB y) pc = .ok (.lastore, 1)) (h : GW g y k n Φ (pc + 1) L st (mem (up σ o i x) l)) : GW g y k n Φ pc L (lg x :: iv i :: .ref o :: st) (mem σ l) := by
  refine g_last ((mem_get ho).trans (congrArg some (cell_long hk))) hi (ix_ok hi) hd ?_
  rw [mem_set (σ' := up σ o i x) (l' := l) ho (by
    rw [cell_long hk, up_fun]
    refine congrArg (fun z => Sum.inl (1, ln l o, Sum.inr (Sum.inl z))) (funext fun j => ?_)
    unfold vp_updL
    show _ = Int64.ofInt (if (j : Int) = i then x else σ o j)
    by_cases h : j = i.toNat
    · rw [if_pos h, if_pos (by omega)]
    · rw [if_neg h, if_neg (by omega)]) (fun m hm => up_n hm) (fun _ _ => rfl)]
  exact h
theorem f_zald {o : Nat} {i : Int} (hk : kd o = 2) (ho : o < 110) (hi : 0 ≤ i ∧ i < ln l o) (hd : decode (yB y) pc = .ok (.baload, 1)) (h : GW g y k n Φ (pc + 1) L (iv (σ o i) :: st) (mem σ l)) : GW g y k n Φ pc L (iv i :: .ref o :: st) (mem σ l) := by
  refine g_zald ((mem_get ho).trans (congrArg some (cell_bool hk))) hi (ix_ok hi) hd ?_
  rw [Int.toNat_of_nonneg hi.1]
  exact h
theorem f_zast1 {o : Nat} {i : Int} (hk : kd o = 2) (ho : o < 110) (hi : 0 ≤ i ∧ i < ln l o) (hd : decode (yB y) pc = .ok (.bastore, 1)) (h : GW g y k n Φ (pc + 1) L st (mem (up σ o i 1) l)) : GW g y k n Φ pc L (iv 1 :: iv i :: .ref o :: st) (mem σ l) := by
  refine g_zast1 ((mem_get ho).trans (congrArg some (cell_bool hk))) hi (ix_ok hi) hd ?_
  rw [mem_set (σ' := up σ o i 1) (l' := l) ho (by rw [cell_bool hk, show (1 : Int32) = Int32.ofInt 1 from rfl, upd_ofInt hi.1, up_fun]) (fun m hm => up_n hm) (fun _ _ => rfl)]
  exact h
theorem f_dald {o : Nat} {i : Int} (hk : kd o = 3) (ho : o < 110) (hi : 0 ≤ i ∧ i < ln l o) (hd : decode (yB y) pc = .ok (.daload, 1)) (h : GW g y k n Φ (pc + 1) L (.double (UInt64.ofNat (σ o i).toNat) :: st) (mem σ l)) : GW g y k n Φ pc L (iv i :: .ref o :: st) (mem σ l) := by
  refine g_dald ((mem_get ho).trans (congrArg some (cell_dbl hk))) hi (ix_ok hi) hd ?_
  rw [Int.toNat_of_nonneg hi.1]
  exact h
theorem f_dast {o : Nat} {i : Int} {x : UInt64} (hk : kd o = 3) (ho : o < 110) (hi : 0 ≤ i ∧ i < ln l o) (hd : decode (yB y) pc = .ok (.dastore, 1)) (h : GW g y k n Φ (pc + 1) L st (mem (up σ o i (x.toNat : Int)) l)) : GW g y k n Φ pc L (.double x :: iv i :: .ref o :: st) (mem σ l) := by
  refine g_dast ((mem_get ho).trans (congrArg some (cell_dbl hk))) hi (ix_ok hi) hd ?_
  rw [mem_set (σ' := up σ o i (x.toNat : Int)) (l' := l) ho (by
    rw [cell_dbl hk, up_fun]
    refine congrArg (fun z => Sum.inl (3, ln l o, Sum.inr (Sum.inr (Sum.inr (Sum.inl z))))) (funext fun j => ?_)
    unfold vf_upd
    show _ = UInt64.ofNat (if (j : Int) = i then (x.toNat : Int) else σ o j).toNat
    by_cases h : j = i.toNat
    · rw [if_pos h, if_pos (by omega)]
      simp
    · rw [if_neg h, if_neg (by omega)]) (fun m hm => up_n hm) (fun _ _ => rfl)]
  exact h
theorem f_alen {o : Nat} (hk : kd o < 5) (ho : o < 110) (hd : decode (yB y) pc = .ok (.arraylength, 1)) (h : GW g y k n Φ (pc + 1) L (iv (ln l o : Int) :: st) (mem σ l)) : GW g y k n Φ pc L (.ref o :: st) (mem σ l) := by
  have h0 := mem_get (σ := σ) (l := l) ho
  rcases hq : kd o with _ | _ | _ | _ | _ | q
  · rw [cell_int hq] at h0; exact g_alen (by decide) h0 hd h
  · rw [cell_long hq] at h0; exact g_alen (by decide) h0 hd h
  · rw [cell_bool hq] at h0; exact g_alen (by decide) h0 hd h
  · rw [cell_dbl hq] at h0; exact g_alen (by decide) h0 hd h
  · rw [cell_sts hq] at h0; exact g_alen (by decide) h0 hd h
  · omega
theorem f_aald {o : Nat} {i : Int} (hk : kd o = 4) (ho : o < 110) (hi : 0 ≤ i ∧ i < ln l o) (hd : decode (yB y) pc = .ok (.aaload, 1)) (h : GW g y k n Φ (pc + 1) L (.ref (qb o + 4 * i.toNat) :: st) (mem σ l)) : GW g y k n Φ pc L (iv i :: .ref o :: st) (mem σ l) :=
  g_aald ((mem_get ho).trans (congrArg some (cell_sts hk))) hi (ix_ok hi) (if_pos (by omega)) hd h
/-- a growing row, made anew -/
def upl (l : Nat → Nat) (r N : Nat) : Nat → Nat := fun m => if m = r then N else l m
def upz (σ : sT) (r : Nat) : sT := fun a b => if a = r then 0 else σ a b
theorem okS_mem110 {len : Nat} {st : List Value} (e : len = 110) (h : okS 110 st) : okS len st := by rw [e]; exact h
theorem f_newput {idx o ci kf r N d : Nat} (hk2 : 1 ≤ yK y) (hk : kd o = ci + 10) (ho : o < 110) (hj : (tm ci)[kf]? = some (d + 1)) (hrd : o + (d + 1) = r) (hr : ownr r = some (o, kf)) (hkr : kd r = 0) (hr110 : r < 110) (hf : FL (yN y).cls idx ci kf) (hfin : ∀ C T N, CL[ci]? = some (C, T, N) → (T kf).2.2.2 = false) (hty : ty_of ci kf = .array .int) (hok : okL 110 L ∧ okS 110 st) (hN : N ≤ 400000) (hd : decode (yB y) pc = .ok (.newarray .int, 2)) (hd2 : decode (yB y) (pc + 2) = .ok (.putfield idx, 3)) (hk1 : 1 ≤ k) (hn1 : N ≤ n) (h : GW g y (k - 1) (n - N) Φ (pc + 2 + 3) L st (mem (upz σ r) (upl l r N))) : GW g y k n Φ pc L (iv N :: .ref o :: st) (mem σ l) := by
  refine g_newput hk2 hf hfin hty ((mem_get ho).trans (congrArg some (cell_obj hk))) ((fldK_get hj).trans (by rw [if_neg (by omega), hrd])) hr (by omega) (mem_get hr110) (by rw [mem_len]; exact hok) (by omega) hd hd2 hk1 hn1 ?_
  rw [mem_set (σ' := upz σ r) (l' := upl l r N) hr110 (by
    rw [cell_int hkr]
    have e1 : ln (upl l r N) r = N := by unfold ln upl; rw [if_neg (by rw [hr]; exact fun q => by cases q), if_pos rfl]; omega
    rw [e1]
    refine congrArg (fun z => Sum.inl (0, N, Sum.inl z)) (funext fun j => ?_)
    unfold upz
    rw [if_pos rfl]
    rfl) (fun m hm => by funext b; unfold upz; rw [if_neg hm]) (fun m hm => by unfold ln upl; rw [if_neg hm])]
  exact h
/-! contracts of the flat memory -/
def Fn (g : gT) (y : yT) (k n : Nat) (as : List Value) (σ : sT) (l : Nat → Nat) (Ψ : mO → sT → (Nat → Nat) → Prop) : Prop := Rn g y k n as (mem σ l) (fΦ Ψ)
/-- a value; nothing changed, nothing made -/
def Fw (g : gT) (y : yT) (as : List Value) (σ : sT) (l : Nat → Nat) (v : Value) : Prop := Fn g y 0 0 as σ l (fun o σ' l' => o = .inl (some v) ∧ σ' = σ ∧ l' = l)
/-- nothing handed back; numbers changed, nothing made -/
def Fm (g : gT) (y : yT) (as : List Value) (σ : sT) (l : Nat → Nat) (Ψ : sT → Prop) : Prop := Fn g y 0 0 as σ l (fun o σ' l' => o = .inl none ∧ Ψ σ' ∧ l' = l)
theorem Fn.of {as : List Value} {Ψ : mO → sT → (Nat → Nat) → Prop} (L : List (Option Value)) (hH : yH y = []) (hp : plainName (yN y).cls = true) (hlen : (entL as).length ≤ yM y) (hL : entL as ++ List.replicate (yM y - (entL as).length) none = L) (h : FW g y k n Ψ 0 L [] σ l) : Fn g y k n as σ l Ψ := Rn.of L hH hp hlen hL h
end GF12
