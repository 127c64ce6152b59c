/-! The law: one case a call -/
section C95
variable {g : gT} {σ : sT} {l : Nat → Nat} {Φ : mO → mM → Prop}
theorem vI (x : Int32) : Value.int x = iv x.toInt := by show Value.int x = Value.int (Int32.ofInt _); rw [Int32.ofInt_toInt]
theorem rI (x : Int32) : R32 x.toInt := ⟨by have := Int32.le_toInt x; simpa using this, by have := Int32.toInt_lt x; omega⟩
theorem sX9 {j : Nat} : Value.int (gX g j) = iv (gX g j).toInt := vI _
section
variable {y : yT} {k n : Nat} {pc : Nat} {L : List (Option Value)} {st : List Value} {M : mM}
theorem g_icmp_eqS {x : Int32} {off : Int} {tgt : Nat} (hd : decode (yB y) pc = .ok (.if_icmp .eq off, 3)) (ht : (pc : Int) + off = (tgt : Int)) (h : GW g y k n Φ tgt L st M) : GW g y k n Φ pc L (.int x :: .int x :: st) M := by
  rw [vI x]
  exact g_icmp_eq (rI x) (rI x) hd ht (fun _ => h) (fun z => absurd rfl z)
end
theorem dc_0 {a : UInt64} (h : vf_n64 a) : Op.cmpValue (FP.dcmp a a) .l = 0 := by
  have h1 := Jvm.Free.Fl.noNaN64_no.mp h
  have h2 : FP.dcmp a a = some .eq := Jvm.FP.Core.dcmp_self (fun z => by
    have h3 := (Jvm.FP.Core.dIsNaN_iff a).mpr z
    rw [h1] at h3
    cases h3)
  rw [h2]
  rfl
theorem a63 (x : Int32) : 0 ≤ (x &&& Int32.ofInt 63).toInt ∧ (x &&& Int32.ofInt 63).toInt ≤ 63 := by
  have e : (x &&& Int32.ofInt 63).toBitVec = x.toBitVec &&& 63#32 := rfl
  have h : (x &&& Int32.ofInt 63).toBitVec.toNat ≤ 63 := by
    rw [e, BitVec.toNat_and]
    exact Nat.and_le_right
  have e2 : (x &&& Int32.ofInt 63).toInt = ((x &&& Int32.ofInt 63).toBitVec.toNat : Int) := BitVec.toInt_eq_toNat_of_lt (by omega)
  omega
theorem lw_0 {c : Nat} {i : Int} {k n : Nat} (hi : 0 ≤ i ∧ i ≤ 2048) (hN : i + 4 ≤ (gN g : Int)) (hc : c < 512) (hJ : Jv (cB c) σ l) (hk : pcL l + (512 - c) ≤ k) (hn : psL l + 6 * (512 - c) ≤ n) (next : ∀ (τ : sT) (l' : Nat → Nat) (k n : Nat), Jv (cB (c + 1)) τ l' → pcL l' + (511 - c) ≤ k → psL l' + 6 * (511 - c) ≤ n → GW g zL_law k n Φ 2895 [some (.ref (KB + 1)), some (.ref 0), some (.ref 92), some (.ref 108), some (.ref 109), some (iv i), none, none, none, none] [] (mem τ l')) : GW g zL_law k n Φ 280 [some (.ref (KB + 1)), some (.ref 0), some (.ref 92), some (.ref 108), some (.ref 109), some (iv i), none, none, none, none] [] (mem σ l) := by
  obtain ⟨v, hv⟩ : ∃ v : Int64, v = (Int64.ofInt (gX g (i + 1).toNat).toInt <<< ((Int32.ofInt 32).toInt64 &&& 63)) ||| (Int64.ofInt (gX g (i + 2).toNat).toInt &&& Int64.ofInt 4294967295) := ⟨_, rfl⟩
  obtain ⟨V, L, RC, k2, n2, hG, hk2, hn2, hF, hM⟩ := s2_append (g := g) (v := v) hJ
  have hG1 := hG.1
  have hG2 := hG.2
  refine g_aload1 dL_law_280 ?_
  refine g_aload0 dL_law_281 ?_
  refine g_iload5 dL_law_282 ?_
  refine g_iconst dL_law_284 ?_
  refine g_iadd dL_law_285 ?_
  refine g_sld ⟨by omega, by omega⟩ (by omega) dL_law_286 ?_
  rw [sX9]
  refine g_i2l (rI _) dL_law_287 ?_
  refine g_bipush dL_law_288 (by decide) ?_
  refine g_lshlR dL_law_290 ?_
  refine g_aload0 dL_law_291 ?_
  refine g_iload5 dL_law_292 ?_
  refine g_iconst dL_law_294 ?_
  refine g_iadd dL_law_295 ?_
  refine g_sld ⟨by omega, by omega⟩ (by omega) dL_law_296 ?_
  rw [sX9]
  refine g_i2l (rI _) dL_law_297 ?_
  refine g_ldc2 (v := Int64.ofInt (4294967295)) kl_L_133 dL_law_298 ?_
  refine g_landR dL_law_301 ?_
  refine g_lorR dL_law_302 ?_
  rw [← hv]
  refine f_cV1q (hF) rfl (by decide) rfl oY_X5_append oI_X5_append lk_L_135 rfl dL_law_303 (by omega) (by omega) rfl (Or.inl rfl) (fun σ303 l303 h303 => ?_)
  obtain ⟨hL1, hm⟩ := hM σ303 l303 h303
  have e9 := pcL_eq hL1
  refine g_aload2 dL_law_306 ?_
  refine g_aload0 dL_law_307 ?_
  refine g_iload5 dL_law_308 ?_
  refine g_iconst dL_law_310 ?_
  refine g_iadd dL_law_311 ?_
  refine g_sld ⟨by omega, by omega⟩ (by omega) dL_law_312 ?_
  rw [sX9]
  refine g_i2l (rI _) dL_law_313 ?_
  refine g_bipush dL_law_314 (by decide) ?_
  refine g_lshlR dL_law_316 ?_
  refine g_aload0 dL_law_317 ?_
  refine g_iload5 dL_law_318 ?_
  refine g_iconst dL_law_320 ?_
  refine g_iadd dL_law_321 ?_
  refine g_sld ⟨by omega, by omega⟩ (by omega) dL_law_322 ?_
  rw [sX9]
  refine g_i2l (rI _) dL_law_323 ?_
  refine g_ldc2 (v := Int64.ofInt (4294967295)) kl_L_133 dL_law_324 ?_
  refine g_landR dL_law_327 ?_
  refine g_lorR dL_law_328 ?_
  rw [← hv]
  refine f_cV1q (hm) rfl (by decide) rfl oY_X6_append oI_X6_append lk_L_139 rfl dL_law_329 (by omega) (by omega) rfl (Or.inl rfl) (fun σ329 l329 h329 => ?_)
  obtain ⟨el, hJ2⟩ := h329
  subst el
  refine g_icmp_eqS (tgt := 2895) dL_law_332 rfl ?_
  exact next _ _ _ _ hJ2 (by omega) (by omega)
theorem lw_1 {c : Nat} {i : Int} {k n : Nat} (hi : 0 ≤ i ∧ i ≤ 2048) (hN : i + 4 ≤ (gN g : Int)) (hc : c < 512) (hJ : Jv (cB c) σ l) (hk : pcL l + (512 - c) ≤ k) (hn : psL l + 6 * (512 - c) ≤ n) (next : ∀ (τ : sT) (l' : Nat → Nat) (k n : Nat), Jv (cB (c + 1)) τ l' → pcL l' + (511 - c) ≤ k → psL l' + 6 * (511 - c) ≤ n → GW g zL_law k n Φ 2895 [some (.ref (KB + 1)), some (.ref 0), some (.ref 92), some (.ref 108), some (.ref 109), some (iv i), none, none, none, none] [] (mem τ l')) : GW g zL_law k n Φ 337 [some (.ref (KB + 1)), some (.ref 0), some (.ref 92), some (.ref 108), some (.ref 109), some (iv i), none, none, none, none] [] (mem σ l) := by
  obtain ⟨V, L, RC, k2, n2, hG, hk2, hn2, hF, hM⟩ := s2_load (g := g) hJ
  have hG1 := hG.1
  have hG2 := hG.2
  refine g_aload1 dL_law_337 ?_
  refine f_cV0q (hF) rfl (by decide) rfl oY_X5_load oI_X5_load lk_L_140 rfl dL_law_338 (by omega) (by omega) rfl (Or.inl rfl) (fun σ338 l338 h338 => ?_)
  obtain ⟨hL1, hm⟩ := hM σ338 l338 h338
  have e9 := pcL_eq hL1
  refine g_aload2 dL_law_341 ?_
  refine f_cV0q (hm) rfl (by decide) rfl oY_X6_load oI_X6_load lk_L_144 rfl dL_law_342 (by omega) (by omega) rfl (Or.inl rfl) (fun σ342 l342 h342 => ?_)
  obtain ⟨el, hJ2⟩ := h342
  subst el
  refine g_icmp_eqS (tgt := 2895) dL_law_345 rfl ?_
  exact next _ _ _ _ hJ2 (by omega) (by omega)
theorem lw_2 {c : Nat} {i : Int} {k n : Nat} (hi : 0 ≤ i ∧ i ≤ 2048) (hN : i + 4 ≤ (gN g : Int)) (hc : c < 512) (hJ : Jv (cB c) σ l) (hk : pcL l + (512 - c) ≤ k) (hn : psL l + 6 * (512 - c) ≤ n) (next : ∀ (τ : sT) (l' : Nat → Nat) (k n : Nat), Jv (cB (c + 1)) τ l' → pcL l' + (511 - c) ≤ k → psL l' + 6 * (511 - c) ≤ n → GW g zL_law k n Φ 2895 [some (.ref (KB + 1)), some (.ref 0), some (.ref 92), some (.ref 108), some (.ref 109), some (iv i), none, none, none, none] [] (mem τ l')) : GW g zL_law k n Φ 350 [some (.ref (KB + 1)), some (.ref 0), some (.ref 92), some (.ref 108), some (.ref 109), some (iv i), none, none, none, none] [] (mem σ l) := by
  obtain ⟨V, L, RC, k2, n2, hG, hk2, hn2, hF, hM⟩ := s2_loadError (g := g) hJ
  have hG1 := hG.1
  have hG2 := hG.2
  refine g_aload1 dL_law_350 ?_
  refine f_cV0q (hF) rfl (by decide) rfl oY_X5_loadError oI_X5_loadError lk_L_145 rfl dL_law_351 (by omega) (by omega) rfl (Or.inl rfl) (fun σ351 l351 h351 => ?_)
  obtain ⟨hL1, hm⟩ := hM σ351 l351 h351
  have e9 := pcL_eq hL1
  refine g_aload2 dL_law_354 ?_
  refine f_cV0q (hm) rfl (by decide) rfl oY_X6_loadError oI_X6_loadError lk_L_148 rfl dL_law_355 (by omega) (by omega) rfl (Or.inl rfl) (fun σ355 l355 h355 => ?_)
  obtain ⟨el, hJ2⟩ := h355
  subst el
  refine g_icmp_eqS (tgt := 2895) dL_law_358 rfl ?_
  exact next _ _ _ _ hJ2 (by omega) (by omega)
theorem lw_3 {c : Nat} {i : Int} {k n : Nat} (hi : 0 ≤ i ∧ i ≤ 2048) (hN : i + 4 ≤ (gN g : Int)) (hc : c < 512) (hJ : Jv (cB c) σ l) (hk : pcL l + (512 - c) ≤ k) (hn : psL l + 6 * (512 - c) ≤ n) (next : ∀ (τ : sT) (l' : Nat → Nat) (k n : Nat), Jv (cB (c + 1)) τ l' → pcL l' + (511 - c) ≤ k → psL l' + 6 * (511 - c) ≤ n → GW g zL_law k n Φ 2895 [some (.ref (KB + 1)), some (.ref 0), some (.ref 92), some (.ref 108), some (.ref 109), some (iv i), none, none, none, none] [] (mem τ l')) : GW g zL_law k n Φ 363 [some (.ref (KB + 1)), some (.ref 0), some (.ref 92), some (.ref 108), some (.ref 109), some (iv i), none, none, none, none] [] (mem σ l) := by
  obtain ⟨V, L, RC, k2, n2, hG, hk2, hn2, hF, hM⟩ := s2_loadStatement (g := g) hJ
  have hG1 := hG.1
  have hG2 := hG.2
  refine g_aload1 dL_law_363 ?_
  refine f_cV0q (hF) rfl (by decide) rfl oY_X5_loadStatement oI_X5_loadStatement lk_L_149 rfl dL_law_364 (by omega) (by omega) rfl (Or.inl rfl) (fun σ364 l364 h364 => ?_)
  obtain ⟨hL1, hm⟩ := hM σ364 l364 h364
  have e9 := pcL_eq hL1
  refine g_aload2 dL_law_367 ?_
  refine f_cV0q (hm) rfl (by decide) rfl oY_X6_loadStatement oI_X6_loadStatement lk_L_152 rfl dL_law_368 (by omega) (by omega) rfl (Or.inl rfl) (fun σ368 l368 h368 => ?_)
  obtain ⟨el, hJ2⟩ := h368
  subst el
  refine g_icmp_eqS (tgt := 2895) dL_law_371 rfl ?_
  exact next _ _ _ _ hJ2 (by omega) (by omega)
theorem lw_4 {c : Nat} {i : Int} {k n : Nat} (hi : 0 ≤ i ∧ i ≤ 2048) (hN : i + 4 ≤ (gN g : Int)) (hc : c < 512) (hJ : Jv (cB c) σ l) (hk : pcL l + (512 - c) ≤ k) (hn : psL l + 6 * (512 - c) ≤ n) (next : ∀ (τ : sT) (l' : Nat → Nat) (k n : Nat), Jv (cB (c + 1)) τ l' → pcL l' + (511 - c) ≤ k → psL l' + 6 * (511 - c) ≤ n → GW g zL_law k n Φ 2895 [some (.ref (KB + 1)), some (.ref 0), some (.ref 92), some (.ref 108), some (.ref 109), some (iv i), none, none, none, none] [] (mem τ l')) : GW g zL_law k n Φ 376 [some (.ref (KB + 1)), some (.ref 0), some (.ref 92), some (.ref 108), some (.ref 109), some (iv i), none, none, none, none] [] (mem σ l) := by
  have hpl := hJ.1
  obtain ⟨kc, b, L, RC, k2, n2, hkc, hQ, hG, hk2, hn2, hF, hM⟩ := st_size (g := g) hJ (rI (gX g (i + 1).toNat))
  have hQ1 := hQ.1
  have hQ2 := hQ.2
  have hG1 := hG.1
  have hG2 := hG.2
  refine g_aload1 dL_law_376 ?_
  refine g_aload0 dL_law_377 ?_
  refine g_iload5 dL_law_378 ?_
  refine g_iconst dL_law_380 ?_
  refine g_iadd dL_law_381 ?_
  refine g_sld ⟨by omega, by omega⟩ (by omega) dL_law_382 ?_
  rw [sX9]
  refine g_aload3 dL_law_383 ?_
  refine f_cS3H hF oYX_L_size oT_L_size (tt4 65 rfl rfl) rfl dL_law_384 (by omega) (by omega) rfl (okFb_of rfl) (fun σ1 l1 h1 => ?_)
  obtain ⟨hL1, hm⟩ := hM σ1 l1 h1
  have e9 := pcL_eq hL1
  refine g_istore6 dL_law_387 rfl (by decide) ?_
  refine g_aload2 dL_law_389 ?_
  refine g_aload0 dL_law_390 ?_
  refine g_iload5 dL_law_391 ?_
  refine g_iconst dL_law_393 ?_
  refine g_iadd dL_law_394 ?_
  refine g_sld ⟨by omega, by omega⟩ (by omega) dL_law_395 ?_
  rw [sX9]
  refine f_cV1q (hm) rfl (by decide) rfl oY_X6_size oI_X6_size lk_L_158 rfl dL_law_396 (by omega) (by omega) rfl (Or.inl rfl) (fun σ396 l396 h396 => ?_)
  obtain ⟨el, ht, hv, hJ2⟩ := h396
  subst el
  refine g_istore7 dL_law_399 rfl (by decide) ?_
  refine g_aload2 dL_law_401 ?_
  refine f_cV0w (thrown_m ht) rfl (by decide) rfl oY_X6_thrown oI_X6_thrown lk_L_159 rfl dL_law_402 rfl (Or.inl rfl) ?_
  refine g_iload6 dL_law_405 ?_
  refine g_icmp_eqS (tgt := 412) dL_law_407 rfl ?_
  refine g_iload6 dL_law_412 ?_
  refine g_if_ne ⟨by omega, by omega⟩ (tgt := 429) dL_law_414 rfl (fun h414 => ?_) (fun h414 => ?_)
  · refine g_goto (tgt := 2895) dL_law_429 rfl ?_
    refine g_forget 6 (g_forget 7 ?_)
    exact next _ _ _ _ hJ2 (by omega) (by omega)
  · refine g_aload3 dL_law_417 ?_
    refine g_iconst dL_law_418 ?_
    refine f_lald rfl (by decide) ⟨by omega, by show _ < ((1 : Nat) : Int); omega⟩ dL_law_419 ?_
    rw [hv (by omega)]
    refine g_iload7 dL_law_420 ?_
    refine g_i2l hQ dL_law_422 ?_
    refine g_lcmp ⟨by omega, by omega⟩ ⟨by omega, by omega⟩ dL_law_423 ?_
    refine g_if_eq_sg (tgt := 429) dL_law_424 rfl (fun h424 => ?_) (fun h424 => absurd h424 (fun z => z rfl))
    refine g_goto (tgt := 2895) dL_law_429 rfl ?_
    refine g_forget 6 (g_forget 7 ?_)
    exact next _ _ _ _ hJ2 (by omega) (by omega)
theorem lw_5 {c : Nat} {i : Int} {k n : Nat} (hi : 0 ≤ i ∧ i ≤ 2048) (hN : i + 4 ≤ (gN g : Int)) (hc : c < 512) (hJ : Jv (cB c) σ l) (hk : pcL l + (512 - c) ≤ k) (hn : psL l + 6 * (512 - c) ≤ n) (next : ∀ (τ : sT) (l' : Nat → Nat) (k n : Nat), Jv (cB (c + 1)) τ l' → pcL l' + (511 - c) ≤ k → psL l' + 6 * (511 - c) ≤ n → GW g zL_law k n Φ 2895 [some (.ref (KB + 1)), some (.ref 0), some (.ref 92), some (.ref 108), some (.ref 109), some (iv i), none, none, none, none] [] (mem τ l')) : GW g zL_law k n Φ 432 [some (.ref (KB + 1)), some (.ref 0), some (.ref 92), some (.ref 108), some (.ref 109), some (iv i), none, none, none, none] [] (mem σ l) := by
  have hpl := hJ.1
  obtain ⟨kc, b, L, RC, k2, n2, hkc, hQ, hG, hk2, hn2, hF, hM⟩ := st_hole (g := g) hJ (rI (gX g (i + 1).toNat)) (rI (gX g (i + 2).toNat))
  have hQ1 := hQ.1
  have hQ2 := hQ.2
  have hG1 := hG.1
  have hG2 := hG.2
  refine g_aload1 dL_law_432 ?_
  refine g_aload0 dL_law_433 ?_
  refine g_iload5 dL_law_434 ?_
  refine g_iconst dL_law_436 ?_
  refine g_iadd dL_law_437 ?_
  refine g_sld ⟨by omega, by omega⟩ (by omega) dL_law_438 ?_
  rw [sX9]
  refine g_aload0 dL_law_439 ?_
  refine g_iload5 dL_law_440 ?_
  refine g_iconst dL_law_442 ?_
  refine g_iadd dL_law_443 ?_
  refine g_sld ⟨by omega, by omega⟩ (by omega) dL_law_444 ?_
  rw [sX9]
  refine g_aload3 dL_law_445 ?_
  refine f_cS4H hF oYX_L_hole oT_L_hole (tt4 145 rfl rfl) rfl dL_law_446 (by omega) (by omega) rfl (okFb_of rfl) (fun σ1 l1 h1 => ?_)
  obtain ⟨hL1, hm⟩ := hM σ1 l1 h1
  have e9 := pcL_eq hL1
  refine g_istore6 dL_law_449 rfl (by decide) ?_
  refine g_aload2 dL_law_451 ?_
  refine g_aload0 dL_law_452 ?_
  refine g_iload5 dL_law_453 ?_
  refine g_iconst dL_law_455 ?_
  refine g_iadd dL_law_456 ?_
  refine g_sld ⟨by omega, by omega⟩ (by omega) dL_law_457 ?_
  rw [sX9]
  refine g_aload0 dL_law_458 ?_
  refine g_iload5 dL_law_459 ?_
  refine g_iconst dL_law_461 ?_
  refine g_iadd dL_law_462 ?_
  refine g_sld ⟨by omega, by omega⟩ (by omega) dL_law_463 ?_
  rw [sX9]
  refine f_cV2q (hm) rfl (by decide) rfl oY_X6_hole oI_X6_hole lk_L_165 rfl dL_law_464 (by omega) (by omega) rfl (Or.inl rfl) (fun σ464 l464 h464 => ?_)
  obtain ⟨el, ht, hv, hJ2⟩ := h464
  subst el
  refine g_istore7 dL_law_467 rfl (by decide) ?_
  refine g_aload2 dL_law_469 ?_
  refine f_cV0w (thrown_m ht) rfl (by decide) rfl oY_X6_thrown oI_X6_thrown lk_L_159 rfl dL_law_470 rfl (Or.inl rfl) ?_
  refine g_iload6 dL_law_473 ?_
  refine g_icmp_eqS (tgt := 480) dL_law_475 rfl ?_
  refine g_iload6 dL_law_480 ?_
  refine g_if_ne ⟨by omega, by omega⟩ (tgt := 497) dL_law_482 rfl (fun h482 => ?_) (fun h482 => ?_)
  · refine g_goto (tgt := 2895) dL_law_497 rfl ?_
    refine g_forget 6 (g_forget 7 ?_)
    exact next _ _ _ _ hJ2 (by omega) (by omega)
  · refine g_aload3 dL_law_485 ?_
    refine g_iconst dL_law_486 ?_
    refine f_lald rfl (by decide) ⟨by omega, by show _ < ((1 : Nat) : Int); omega⟩ dL_law_487 ?_
    rw [hv (by omega)]
    refine g_iload7 dL_law_488 ?_
    refine g_i2l hQ dL_law_490 ?_
    refine g_lcmp ⟨by omega, by omega⟩ ⟨by omega, by omega⟩ dL_law_491 ?_
    refine g_if_eq_sg (tgt := 497) dL_law_492 rfl (fun h492 => ?_) (fun h492 => absurd h492 (fun z => z rfl))
    refine g_goto (tgt := 2895) dL_law_497 rfl ?_
    refine g_forget 6 (g_forget 7 ?_)
    exact next _ _ _ _ hJ2 (by omega) (by omega)
theorem lw_6 {c : Nat} {i : Int} {k n : Nat} (hi : 0 ≤ i ∧ i ≤ 2048) (hN : i + 4 ≤ (gN g : Int)) (hc : c < 512) (hJ : Jv (cB c) σ l) (hk : pcL l + (512 - c) ≤ k) (hn : psL l + 6 * (512 - c) ≤ n) (next : ∀ (τ : sT) (l' : Nat → Nat) (k n : Nat), Jv (cB (c + 1)) τ l' → pcL l' + (511 - c) ≤ k → psL l' + 6 * (511 - c) ≤ n → GW g zL_law k n Φ 2895 [some (.ref (KB + 1)), some (.ref 0), some (.ref 92), some (.ref 108), some (.ref 109), some (iv i), none, none, none, none] [] (mem τ l')) : GW g zL_law k n Φ 500 [some (.ref (KB + 1)), some (.ref 0), some (.ref 92), some (.ref 108), some (.ref 109), some (iv i), none, none, none, none] [] (mem σ l) := by
  have hpl := hJ.1
  obtain ⟨kc, b, L, RC, k2, n2, hkc, hQ, hG, hk2, hn2, hF, hM⟩ := st_covered (g := g) hJ (rI (gX g (i + 1).toNat)) (rI (gX g (i + 2).toNat))
  have hQ1 := hQ.1
  have hQ2 := hQ.2
  have hG1 := hG.1
  have hG2 := hG.2
  refine g_aload1 dL_law_500 ?_
  refine g_aload0 dL_law_501 ?_
  refine g_iload5 dL_law_502 ?_
  refine g_iconst dL_law_504 ?_
  refine g_iadd dL_law_505 ?_
  refine g_sld ⟨by omega, by omega⟩ (by omega) dL_law_506 ?_
  rw [sX9]
  refine g_aload0 dL_law_507 ?_
  refine g_iload5 dL_law_508 ?_
  refine g_iconst dL_law_510 ?_
  refine g_iadd dL_law_511 ?_
  refine g_sld ⟨by omega, by omega⟩ (by omega) dL_law_512 ?_
  rw [sX9]
  refine g_aload3 dL_law_513 ?_
  refine f_cS4H hF oYX_L_covered oT_L_covered (tt4 181 rfl rfl) rfl dL_law_514 (by omega) (by omega) rfl (okFb_of rfl) (fun σ1 l1 h1 => ?_)
  obtain ⟨hL1, hm⟩ := hM σ1 l1 h1
  have e9 := pcL_eq hL1
  refine g_istore6 dL_law_517 rfl (by decide) ?_
  refine g_aload2 dL_law_519 ?_
  refine g_aload0 dL_law_520 ?_
  refine g_iload5 dL_law_521 ?_
  refine g_iconst dL_law_523 ?_
  refine g_iadd dL_law_524 ?_
  refine g_sld ⟨by omega, by omega⟩ (by omega) dL_law_525 ?_
  rw [sX9]
  refine g_aload0 dL_law_526 ?_
  refine g_iload5 dL_law_527 ?_
  refine g_iconst dL_law_529 ?_
  refine g_iadd dL_law_530 ?_
  refine g_sld ⟨by omega, by omega⟩ (by omega) dL_law_531 ?_
  rw [sX9]
  refine f_cV2q (hm) rfl (by decide) rfl oY_X6_covered oI_X6_covered lk_L_168 rfl dL_law_532 (by omega) (by omega) rfl (Or.inl rfl) (fun σ532 l532 h532 => ?_)
  obtain ⟨el, ht, hv, hJ2⟩ := h532
  subst el
  refine g_istore7 dL_law_535 rfl (by decide) ?_
  refine g_aload2 dL_law_537 ?_
  refine f_cV0w (thrown_m ht) rfl (by decide) rfl oY_X6_thrown oI_X6_thrown lk_L_159 rfl dL_law_538 rfl (Or.inl rfl) ?_
  refine g_iload6 dL_law_541 ?_
  refine g_icmp_eqS (tgt := 548) dL_law_543 rfl ?_
  refine g_iload6 dL_law_548 ?_
  refine g_if_ne ⟨by omega, by omega⟩ (tgt := 565) dL_law_550 rfl (fun h550 => ?_) (fun h550 => ?_)
  · refine g_goto (tgt := 2895) dL_law_565 rfl ?_
    refine g_forget 6 (g_forget 7 ?_)
    exact next _ _ _ _ hJ2 (by omega) (by omega)
  · refine g_aload3 dL_law_553 ?_
    refine g_iconst dL_law_554 ?_
    refine f_lald rfl (by decide) ⟨by omega, by show _ < ((1 : Nat) : Int); omega⟩ dL_law_555 ?_
    rw [hv (by omega)]
    refine g_iload7 dL_law_556 ?_
    refine g_i2l hQ dL_law_558 ?_
    refine g_lcmp ⟨by omega, by omega⟩ ⟨by omega, by omega⟩ dL_law_559 ?_
    refine g_if_eq_sg (tgt := 565) dL_law_560 rfl (fun h560 => ?_) (fun h560 => absurd h560 (fun z => z rfl))
    refine g_goto (tgt := 2895) dL_law_565 rfl ?_
    refine g_forget 6 (g_forget 7 ?_)
    exact next _ _ _ _ hJ2 (by omega) (by omega)
theorem lw_7 {c : Nat} {i : Int} {k n : Nat} (hi : 0 ≤ i ∧ i ≤ 2048) (hN : i + 4 ≤ (gN g : Int)) (hc : c < 512) (hJ : Jv (cB c) σ l) (hk : pcL l + (512 - c) ≤ k) (hn : psL l + 6 * (512 - c) ≤ n) (next : ∀ (τ : sT) (l' : Nat → Nat) (k n : Nat), Jv (cB (c + 1)) τ l' → pcL l' + (511 - c) ≤ k → psL l' + 6 * (511 - c) ≤ n → GW g zL_law k n Φ 2895 [some (.ref (KB + 1)), some (.ref 0), some (.ref 92), some (.ref 108), some (.ref 109), some (iv i), none, none, none, none] [] (mem τ l')) : GW g zL_law k n Φ 568 [some (.ref (KB + 1)), some (.ref 0), some (.ref 92), some (.ref 108), some (.ref 109), some (iv i), none, none, none, none] [] (mem σ l) := by
  have hpl := hJ.1
  obtain ⟨kc, b, L, RC, k2, n2, hkc, hQ, hG, hk2, hn2, hF, hM⟩ := st_sounding (g := g) hJ (rI (gX g (i + 1).toNat))
  have hQ1 := hQ.1
  have hQ2 := hQ.2
  have hG1 := hG.1
  have hG2 := hG.2
  refine g_aload1 dL_law_568 ?_
  refine g_aload0 dL_law_569 ?_
  refine g_iload5 dL_law_570 ?_
  refine g_iconst dL_law_572 ?_
  refine g_iadd dL_law_573 ?_
  refine g_sld ⟨by omega, by omega⟩ (by omega) dL_law_574 ?_
  rw [sX9]
  refine g_aload3 dL_law_575 ?_
  refine f_cS3H hF oYX_L_sounding oT_L_sounding (tt4 192 rfl rfl) rfl dL_law_576 (by omega) (by omega) rfl (okFb_of rfl) (fun σ1 l1 h1 => ?_)
  obtain ⟨hL1, hm⟩ := hM σ1 l1 h1
  have e9 := pcL_eq hL1
  refine g_istore6 dL_law_579 rfl (by decide) ?_
  refine g_aload2 dL_law_581 ?_
  refine g_aload0 dL_law_582 ?_
  refine g_iload5 dL_law_583 ?_
  refine g_iconst dL_law_585 ?_
  refine g_iadd dL_law_586 ?_
  refine g_sld ⟨by omega, by omega⟩ (by omega) dL_law_587 ?_
  rw [sX9]
  refine f_cV1q (hm) rfl (by decide) rfl oY_X6_sounding oI_X6_sounding lk_L_171 rfl dL_law_588 (by omega) (by omega) rfl (Or.inl rfl) (fun σ588 l588 h588 => ?_)
  obtain ⟨el, ht, hv, hJ2⟩ := h588
  subst el
  refine g_istore7 dL_law_591 rfl (by decide) ?_
  refine g_aload2 dL_law_593 ?_
  refine f_cV0w (thrown_m ht) rfl (by decide) rfl oY_X6_thrown oI_X6_thrown lk_L_159 rfl dL_law_594 rfl (Or.inl rfl) ?_
  refine g_iload6 dL_law_597 ?_
  refine g_icmp_eqS (tgt := 604) dL_law_599 rfl ?_
  refine g_iload6 dL_law_604 ?_
  refine g_if_ne ⟨by omega, by omega⟩ (tgt := 621) dL_law_606 rfl (fun h606 => ?_) (fun h606 => ?_)
  · refine g_goto (tgt := 2895) dL_law_621 rfl ?_
    refine g_forget 6 (g_forget 7 ?_)
    exact next _ _ _ _ hJ2 (by omega) (by omega)
  · refine g_aload3 dL_law_609 ?_
    refine g_iconst dL_law_610 ?_
    refine f_lald rfl (by decide) ⟨by omega, by show _ < ((1 : Nat) : Int); omega⟩ dL_law_611 ?_
    rw [hv (by omega)]
    refine g_iload7 dL_law_612 ?_
    refine g_i2l hQ dL_law_614 ?_
    refine g_lcmp ⟨by omega, by omega⟩ ⟨by omega, by omega⟩ dL_law_615 ?_
    refine g_if_eq_sg (tgt := 621) dL_law_616 rfl (fun h616 => ?_) (fun h616 => absurd h616 (fun z => z rfl))
    refine g_goto (tgt := 2895) dL_law_621 rfl ?_
    refine g_forget 6 (g_forget 7 ?_)
    exact next _ _ _ _ hJ2 (by omega) (by omega)
theorem lw_8 {c : Nat} {i : Int} {k n : Nat} (hi : 0 ≤ i ∧ i ≤ 2048) (hN : i + 4 ≤ (gN g : Int)) (hc : c < 512) (hJ : Jv (cB c) σ l) (hk : pcL l + (512 - c) ≤ k) (hn : psL l + 6 * (512 - c) ≤ n) (next : ∀ (τ : sT) (l' : Nat → Nat) (k n : Nat), Jv (cB (c + 1)) τ l' → pcL l' + (511 - c) ≤ k → psL l' + 6 * (511 - c) ≤ n → GW g zL_law k n Φ 2895 [some (.ref (KB + 1)), some (.ref 0), some (.ref 92), some (.ref 108), some (.ref 109), some (iv i), none, none, none, none] [] (mem τ l')) : GW g zL_law k n Φ 624 [some (.ref (KB + 1)), some (.ref 0), some (.ref 92), some (.ref 108), some (.ref 109), some (iv i), none, none, none, none] [] (mem σ l) := by
  have hpl := hJ.1
  obtain ⟨kc, b, L, RC, k2, n2, hkc, hQ, hG, hk2, hn2, hF, hM⟩ := st_cents (g := g) hJ (rI (gX g (i + 1).toNat))
  have hQ1 := hQ.1
  have hQ2 := hQ.2
  have hG1 := hG.1
  have hG2 := hG.2
  refine g_aload1 dL_law_624 ?_
  refine g_aload0 dL_law_625 ?_
  refine g_iload5 dL_law_626 ?_
  refine g_iconst dL_law_628 ?_
  refine g_iadd dL_law_629 ?_
  refine g_sld ⟨by omega, by omega⟩ (by omega) dL_law_630 ?_
  rw [sX9]
  refine g_aload3 dL_law_631 ?_
  refine f_cS3H hF oYX_L_cents oT_L_cents (tt4 200 rfl rfl) rfl dL_law_632 (by omega) (by omega) rfl (okFb_of rfl) (fun σ1 l1 h1 => ?_)
  obtain ⟨hL1, hm⟩ := hM σ1 l1 h1
  have e9 := pcL_eq hL1
  refine g_istore6 dL_law_635 rfl (by decide) ?_
  refine g_aload2 dL_law_637 ?_
  refine g_aload0 dL_law_638 ?_
  refine g_iload5 dL_law_639 ?_
  refine g_iconst dL_law_641 ?_
  refine g_iadd dL_law_642 ?_
  refine g_sld ⟨by omega, by omega⟩ (by omega) dL_law_643 ?_
  rw [sX9]
  refine f_cV1q (hm) rfl (by decide) rfl oY_X6_cents oI_X6_cents lk_L_174 rfl dL_law_644 (by omega) (by omega) rfl (Or.inl rfl) (fun σ644 l644 h644 => ?_)
  obtain ⟨el, ht, hv, hJ2⟩ := h644
  subst el
  refine g_istore7 dL_law_647 rfl (by decide) ?_
  refine g_aload2 dL_law_649 ?_
  refine f_cV0w (thrown_m ht) rfl (by decide) rfl oY_X6_thrown oI_X6_thrown lk_L_159 rfl dL_law_650 rfl (Or.inl rfl) ?_
  refine g_iload6 dL_law_653 ?_
  refine g_icmp_eqS (tgt := 660) dL_law_655 rfl ?_
  refine g_iload6 dL_law_660 ?_
  refine g_if_ne ⟨by omega, by omega⟩ (tgt := 677) dL_law_662 rfl (fun h662 => ?_) (fun h662 => ?_)
  · refine g_goto (tgt := 2895) dL_law_677 rfl ?_
    refine g_forget 6 (g_forget 7 ?_)
    exact next _ _ _ _ hJ2 (by omega) (by omega)
  · refine g_aload3 dL_law_665 ?_
    refine g_iconst dL_law_666 ?_
    refine f_lald rfl (by decide) ⟨by omega, by show _ < ((1 : Nat) : Int); omega⟩ dL_law_667 ?_
    rw [hv (by omega)]
    refine g_iload7 dL_law_668 ?_
    refine g_i2l hQ dL_law_670 ?_
    refine g_lcmp ⟨by omega, by omega⟩ ⟨by omega, by omega⟩ dL_law_671 ?_
    refine g_if_eq_sg (tgt := 677) dL_law_672 rfl (fun h672 => ?_) (fun h672 => absurd h672 (fun z => z rfl))
    refine g_goto (tgt := 2895) dL_law_677 rfl ?_
    refine g_forget 6 (g_forget 7 ?_)
    exact next _ _ _ _ hJ2 (by omega) (by omega)
theorem lw_9 {c : Nat} {i : Int} {k n : Nat} (hi : 0 ≤ i ∧ i ≤ 2048) (hN : i + 4 ≤ (gN g : Int)) (hc : c < 512) (hJ : Jv (cB c) σ l) (hk : pcL l + (512 - c) ≤ k) (hn : psL l + 6 * (512 - c) ≤ n) (next : ∀ (τ : sT) (l' : Nat → Nat) (k n : Nat), Jv (cB (c + 1)) τ l' → pcL l' + (511 - c) ≤ k → psL l' + 6 * (511 - c) ≤ n → GW g zL_law k n Φ 2895 [some (.ref (KB + 1)), some (.ref 0), some (.ref 92), some (.ref 108), some (.ref 109), some (iv i), none, none, none, none] [] (mem τ l')) : GW g zL_law k n Φ 680 [some (.ref (KB + 1)), some (.ref 0), some (.ref 92), some (.ref 108), some (.ref 109), some (iv i), none, none, none, none] [] (mem σ l) := by
  have hpl := hJ.1
  obtain ⟨kc, b, L, RC, k2, n2, hkc, hQ, hG, hk2, hn2, hF, hM⟩ := st_tone (g := g) hJ (rI (gX g (i + 1).toNat))
  have hQ1 := hQ.1
  have hQ2 := hQ.2
  have hG1 := hG.1
  have hG2 := hG.2
  refine g_aload1 dL_law_680 ?_
  refine g_aload0 dL_law_681 ?_
  refine g_iload5 dL_law_682 ?_
  refine g_iconst dL_law_684 ?_
  refine g_iadd dL_law_685 ?_
  refine g_sld ⟨by omega, by omega⟩ (by omega) dL_law_686 ?_
  rw [sX9]
  refine g_aload3 dL_law_687 ?_
  refine f_cS3H hF oYX_L_tone oT_L_tone (tt4 208 rfl rfl) rfl dL_law_688 (by omega) (by omega) rfl (okFb_of rfl) (fun σ1 l1 h1 => ?_)
  obtain ⟨hL1, hm⟩ := hM σ1 l1 h1
  have e9 := pcL_eq hL1
  refine g_istore6 dL_law_691 rfl (by decide) ?_
  refine g_aload2 dL_law_693 ?_
  refine g_aload0 dL_law_694 ?_
  refine g_iload5 dL_law_695 ?_
  refine g_iconst dL_law_697 ?_
  refine g_iadd dL_law_698 ?_
  refine g_sld ⟨by omega, by omega⟩ (by omega) dL_law_699 ?_
  rw [sX9]
  refine f_cV1q (hm) rfl (by decide) rfl oY_X6_tone oI_X6_tone lk_L_177 rfl dL_law_700 (by omega) (by omega) rfl (Or.inl rfl) (fun σ700 l700 h700 => ?_)
  obtain ⟨el, ht, hv, hJ2⟩ := h700
  subst el
  refine g_istore7 dL_law_703 rfl (by decide) ?_
  refine g_aload2 dL_law_705 ?_
  refine f_cV0w (thrown_m ht) rfl (by decide) rfl oY_X6_thrown oI_X6_thrown lk_L_159 rfl dL_law_706 rfl (Or.inl rfl) ?_
  refine g_iload6 dL_law_709 ?_
  refine g_icmp_eqS (tgt := 716) dL_law_711 rfl ?_
  refine g_iload6 dL_law_716 ?_
  refine g_if_ne ⟨by omega, by omega⟩ (tgt := 733) dL_law_718 rfl (fun h718 => ?_) (fun h718 => ?_)
  · refine g_goto (tgt := 2895) dL_law_733 rfl ?_
    refine g_forget 6 (g_forget 7 ?_)
    exact next _ _ _ _ hJ2 (by omega) (by omega)
  · refine g_aload3 dL_law_721 ?_
    refine g_iconst dL_law_722 ?_
    refine f_lald rfl (by decide) ⟨by omega, by show _ < ((1 : Nat) : Int); omega⟩ dL_law_723 ?_
    rw [hv (by omega)]
    refine g_iload7 dL_law_724 ?_
    refine g_i2l hQ dL_law_726 ?_
    refine g_lcmp ⟨by omega, by omega⟩ ⟨by omega, by omega⟩ dL_law_727 ?_
    refine g_if_eq_sg (tgt := 733) dL_law_728 rfl (fun h728 => ?_) (fun h728 => absurd h728 (fun z => z rfl))
    refine g_goto (tgt := 2895) dL_law_733 rfl ?_
    refine g_forget 6 (g_forget 7 ?_)
    exact next _ _ _ _ hJ2 (by omega) (by omega)
theorem lw_10 {c : Nat} {i : Int} {k n : Nat} (hi : 0 ≤ i ∧ i ≤ 2048) (hN : i + 4 ≤ (gN g : Int)) (hc : c < 512) (hJ : Jv (cB c) σ l) (hk : pcL l + (512 - c) ≤ k) (hn : psL l + 6 * (512 - c) ≤ n) (next : ∀ (τ : sT) (l' : Nat → Nat) (k n : Nat), Jv (cB (c + 1)) τ l' → pcL l' + (511 - c) ≤ k → psL l' + 6 * (511 - c) ≤ n → GW g zL_law k n Φ 2895 [some (.ref (KB + 1)), some (.ref 0), some (.ref 92), some (.ref 108), some (.ref 109), some (iv i), none, none, none, none] [] (mem τ l')) : GW g zL_law k n Φ 736 [some (.ref (KB + 1)), some (.ref 0), some (.ref 92), some (.ref 108), some (.ref 109), some (iv i), none, none, none, none] [] (mem σ l) := by
  have hpl := hJ.1
  obtain ⟨kc, b, L, RC, k2, n2, hkc, hQ, hG, hk2, hn2, hF, hM⟩ := st_off (g := g) hJ (rI (gX g (i + 1).toNat))
  have hQ1 := hQ.1
  have hQ2 := hQ.2
  have hG1 := hG.1
  have hG2 := hG.2
  refine g_aload1 dL_law_736 ?_
  refine g_aload0 dL_law_737 ?_
  refine g_iload5 dL_law_738 ?_
  refine g_iconst dL_law_740 ?_
  refine g_iadd dL_law_741 ?_
  refine g_sld ⟨by omega, by omega⟩ (by omega) dL_law_742 ?_
  rw [sX9]
  refine g_aload3 dL_law_743 ?_
  refine f_cS3H hF oYX_L_off oT_L_off (tt4 216 rfl rfl) rfl dL_law_744 (by omega) (by omega) rfl (okFb_of rfl) (fun σ1 l1 h1 => ?_)
  obtain ⟨hL1, hm⟩ := hM σ1 l1 h1
  have e9 := pcL_eq hL1
  refine g_istore6 dL_law_747 rfl (by decide) ?_
  refine g_aload2 dL_law_749 ?_
  refine g_aload0 dL_law_750 ?_
  refine g_iload5 dL_law_751 ?_
  refine g_iconst dL_law_753 ?_
  refine g_iadd dL_law_754 ?_
  refine g_sld ⟨by omega, by omega⟩ (by omega) dL_law_755 ?_
  rw [sX9]
  refine f_cV1q (hm) rfl (by decide) rfl oY_X6_off oI_X6_off lk_L_180 rfl dL_law_756 (by omega) (by omega) rfl (Or.inl rfl) (fun σ756 l756 h756 => ?_)
  obtain ⟨el, ht, hv, hJ2⟩ := h756
  subst el
  refine g_istore7 dL_law_759 rfl (by decide) ?_
  refine g_aload2 dL_law_761 ?_
  refine f_cV0w (thrown_m ht) rfl (by decide) rfl oY_X6_thrown oI_X6_thrown lk_L_159 rfl dL_law_762 rfl (Or.inl rfl) ?_
  refine g_iload6 dL_law_765 ?_
  refine g_icmp_eqS (tgt := 772) dL_law_767 rfl ?_
  refine g_iload6 dL_law_772 ?_
  refine g_if_ne ⟨by omega, by omega⟩ (tgt := 789) dL_law_774 rfl (fun h774 => ?_) (fun h774 => ?_)
  · refine g_goto (tgt := 2895) dL_law_789 rfl ?_
    refine g_forget 6 (g_forget 7 ?_)
    exact next _ _ _ _ hJ2 (by omega) (by omega)
  · refine g_aload3 dL_law_777 ?_
    refine g_iconst dL_law_778 ?_
    refine f_lald rfl (by decide) ⟨by omega, by show _ < ((1 : Nat) : Int); omega⟩ dL_law_779 ?_
    rw [hv (by omega)]
    refine g_iload7 dL_law_780 ?_
    refine g_i2l hQ dL_law_782 ?_
    refine g_lcmp ⟨by omega, by omega⟩ ⟨by omega, by omega⟩ dL_law_783 ?_
    refine g_if_eq_sg (tgt := 789) dL_law_784 rfl (fun h784 => ?_) (fun h784 => absurd h784 (fun z => z rfl))
    refine g_goto (tgt := 2895) dL_law_789 rfl ?_
    refine g_forget 6 (g_forget 7 ?_)
    exact next _ _ _ _ hJ2 (by omega) (by omega)
theorem lw_11 {c : Nat} {i : Int} {k n : Nat} (hi : 0 ≤ i ∧ i ≤ 2048) (hN : i + 4 ≤ (gN g : Int)) (hc : c < 512) (hJ : Jv (cB c) σ l) (hk : pcL l + (512 - c) ≤ k) (hn : psL l + 6 * (512 - c) ≤ n) (next : ∀ (τ : sT) (l' : Nat → Nat) (k n : Nat), Jv (cB (c + 1)) τ l' → pcL l' + (511 - c) ≤ k → psL l' + 6 * (511 - c) ≤ n → GW g zL_law k n Φ 2895 [some (.ref (KB + 1)), some (.ref 0), some (.ref 92), some (.ref 108), some (.ref 109), some (iv i), none, none, none, none] [] (mem τ l')) : GW g zL_law k n Φ 792 [some (.ref (KB + 1)), some (.ref 0), some (.ref 92), some (.ref 108), some (.ref 109), some (iv i), none, none, none, none] [] (mem σ l) := by
  have hpl := hJ.1
  obtain ⟨kc, b, L, RC, k2, n2, hkc, hQ, hG, hk2, hn2, hF, hM⟩ := st_halves (g := g) hJ (rI (gX g (i + 1).toNat))
  have hQ1 := hQ.1
  have hQ2 := hQ.2
  have hG1 := hG.1
  have hG2 := hG.2
  refine g_aload1 dL_law_792 ?_
  refine g_aload0 dL_law_793 ?_
  refine g_iload5 dL_law_794 ?_
  refine g_iconst dL_law_796 ?_
  refine g_iadd dL_law_797 ?_
  refine g_sld ⟨by omega, by omega⟩ (by omega) dL_law_798 ?_
  rw [sX9]
  refine g_aload3 dL_law_799 ?_
  refine f_cS3H hF oYX_L_halves oT_L_halves (tt4 223 rfl rfl) rfl dL_law_800 (by omega) (by omega) rfl (okFb_of rfl) (fun σ1 l1 h1 => ?_)
  obtain ⟨hL1, hm⟩ := hM σ1 l1 h1
  have e9 := pcL_eq hL1
  refine g_istore6 dL_law_803 rfl (by decide) ?_
  refine g_aload2 dL_law_805 ?_
  refine g_aload0 dL_law_806 ?_
  refine g_iload5 dL_law_807 ?_
  refine g_iconst dL_law_809 ?_
  refine g_iadd dL_law_810 ?_
  refine g_sld ⟨by omega, by omega⟩ (by omega) dL_law_811 ?_
  rw [sX9]
  refine f_cV1q (hm) rfl (by decide) rfl oY_X6_halves oI_X6_halves lk_L_183 rfl dL_law_812 (by omega) (by omega) rfl (Or.inl rfl) (fun σ812 l812 h812 => ?_)
  obtain ⟨el, ht, hv, hJ2⟩ := h812
  subst el
  refine g_istore7 dL_law_815 rfl (by decide) ?_
  refine g_aload2 dL_law_817 ?_
  refine f_cV0w (thrown_m ht) rfl (by decide) rfl oY_X6_thrown oI_X6_thrown lk_L_159 rfl dL_law_818 rfl (Or.inl rfl) ?_
  refine g_iload6 dL_law_821 ?_
  refine g_icmp_eqS (tgt := 828) dL_law_823 rfl ?_
  refine g_iload6 dL_law_828 ?_
  refine g_if_ne ⟨by omega, by omega⟩ (tgt := 845) dL_law_830 rfl (fun h830 => ?_) (fun h830 => ?_)
  · refine g_goto (tgt := 2895) dL_law_845 rfl ?_
    refine g_forget 6 (g_forget 7 ?_)
    exact next _ _ _ _ hJ2 (by omega) (by omega)
  · refine g_aload3 dL_law_833 ?_
    refine g_iconst dL_law_834 ?_
    refine f_lald rfl (by decide) ⟨by omega, by show _ < ((1 : Nat) : Int); omega⟩ dL_law_835 ?_
    rw [hv (by omega)]
    refine g_iload7 dL_law_836 ?_
    refine g_i2l hQ dL_law_838 ?_
    refine g_lcmp ⟨by omega, by omega⟩ ⟨by omega, by omega⟩ dL_law_839 ?_
    refine g_if_eq_sg (tgt := 845) dL_law_840 rfl (fun h840 => ?_) (fun h840 => absurd h840 (fun z => z rfl))
    refine g_goto (tgt := 2895) dL_law_845 rfl ?_
    refine g_forget 6 (g_forget 7 ?_)
    exact next _ _ _ _ hJ2 (by omega) (by omega)
theorem lw_12 {c : Nat} {i : Int} {k n : Nat} (hi : 0 ≤ i ∧ i ≤ 2048) (hN : i + 4 ≤ (gN g : Int)) (hc : c < 512) (hJ : Jv (cB c) σ l) (hk : pcL l + (512 - c) ≤ k) (hn : psL l + 6 * (512 - c) ≤ n) (next : ∀ (τ : sT) (l' : Nat → Nat) (k n : Nat), Jv (cB (c + 1)) τ l' → pcL l' + (511 - c) ≤ k → psL l' + 6 * (511 - c) ≤ n → GW g zL_law k n Φ 2895 [some (.ref (KB + 1)), some (.ref 0), some (.ref 92), some (.ref 108), some (.ref 109), some (iv i), none, none, none, none] [] (mem τ l')) : GW g zL_law k n Φ 848 [some (.ref (KB + 1)), some (.ref 0), some (.ref 92), some (.ref 108), some (.ref 109), some (iv i), none, none, none, none] [] (mem σ l) := by
  have hpl := hJ.1
  obtain ⟨kc, b, L, RC, k2, n2, hkc, hQ, hG, hk2, hn2, hF, hM⟩ := st_crosses (g := g) hJ (rI (gX g (i + 1).toNat))
  have hQ1 := hQ.1
  have hQ2 := hQ.2
  have hG1 := hG.1
  have hG2 := hG.2
  refine g_aload1 dL_law_848 ?_
  refine g_aload0 dL_law_849 ?_
  refine g_iload5 dL_law_850 ?_
  refine g_iconst dL_law_852 ?_
  refine g_iadd dL_law_853 ?_
  refine g_sld ⟨by omega, by omega⟩ (by omega) dL_law_854 ?_
  rw [sX9]
  refine g_aload3 dL_law_855 ?_
  refine f_cS3H hF oYX_L_crosses oT_L_crosses (tt4 230 rfl rfl) rfl dL_law_856 (by omega) (by omega) rfl (okFb_of rfl) (fun σ1 l1 h1 => ?_)
  obtain ⟨hL1, hm⟩ := hM σ1 l1 h1
  have e9 := pcL_eq hL1
  refine g_istore6 dL_law_859 rfl (by decide) ?_
  refine g_aload2 dL_law_861 ?_
  refine g_aload0 dL_law_862 ?_
  refine g_iload5 dL_law_863 ?_
  refine g_iconst dL_law_865 ?_
  refine g_iadd dL_law_866 ?_
  refine g_sld ⟨by omega, by omega⟩ (by omega) dL_law_867 ?_
  rw [sX9]
  refine f_cV1q (hm) rfl (by decide) rfl oY_X6_crosses oI_X6_crosses lk_L_186 rfl dL_law_868 (by omega) (by omega) rfl (Or.inl rfl) (fun σ868 l868 h868 => ?_)
  obtain ⟨el, ht, hv, hJ2⟩ := h868
  subst el
  refine g_istore7 dL_law_871 rfl (by decide) ?_
  refine g_aload2 dL_law_873 ?_
  refine f_cV0w (thrown_m ht) rfl (by decide) rfl oY_X6_thrown oI_X6_thrown lk_L_159 rfl dL_law_874 rfl (Or.inl rfl) ?_
  refine g_iload6 dL_law_877 ?_
  refine g_icmp_eqS (tgt := 884) dL_law_879 rfl ?_
  refine g_iload6 dL_law_884 ?_
  refine g_if_ne ⟨by omega, by omega⟩ (tgt := 901) dL_law_886 rfl (fun h886 => ?_) (fun h886 => ?_)
  · refine g_goto (tgt := 2895) dL_law_901 rfl ?_
    refine g_forget 6 (g_forget 7 ?_)
    exact next _ _ _ _ hJ2 (by omega) (by omega)
  · refine g_aload3 dL_law_889 ?_
    refine g_iconst dL_law_890 ?_
    refine f_lald rfl (by decide) ⟨by omega, by show _ < ((1 : Nat) : Int); omega⟩ dL_law_891 ?_
    rw [hv (by omega)]
    refine g_iload7 dL_law_892 ?_
    refine g_i2l hQ dL_law_894 ?_
    refine g_lcmp ⟨by omega, by omega⟩ ⟨by omega, by omega⟩ dL_law_895 ?_
    refine g_if_eq_sg (tgt := 901) dL_law_896 rfl (fun h896 => ?_) (fun h896 => absurd h896 (fun z => z rfl))
    refine g_goto (tgt := 2895) dL_law_901 rfl ?_
    refine g_forget 6 (g_forget 7 ?_)
    exact next _ _ _ _ hJ2 (by omega) (by omega)
theorem lw_13 {c : Nat} {i : Int} {k n : Nat} (hi : 0 ≤ i ∧ i ≤ 2048) (hN : i + 4 ≤ (gN g : Int)) (hc : c < 512) (hJ : Jv (cB c) σ l) (hk : pcL l + (512 - c) ≤ k) (hn : psL l + 6 * (512 - c) ≤ n) (next : ∀ (τ : sT) (l' : Nat → Nat) (k n : Nat), Jv (cB (c + 1)) τ l' → pcL l' + (511 - c) ≤ k → psL l' + 6 * (511 - c) ≤ n → GW g zL_law k n Φ 2895 [some (.ref (KB + 1)), some (.ref 0), some (.ref 92), some (.ref 108), some (.ref 109), some (iv i), none, none, none, none] [] (mem τ l')) : GW g zL_law k n Φ 904 [some (.ref (KB + 1)), some (.ref 0), some (.ref 92), some (.ref 108), some (.ref 109), some (iv i), none, none, none, none] [] (mem σ l) := by
  have hpl := hJ.1
  obtain ⟨kc, b, L, RC, k2, n2, hkc, hQ, hG, hk2, hn2, hF, hM⟩ := st_isEasy (g := g) hJ (rI (gX g (i + 1).toNat))
  have hG1 := hG.1
  have hG2 := hG.2
  refine g_aload1 dL_law_904 ?_
  refine g_aload0 dL_law_905 ?_
  refine g_iload5 dL_law_906 ?_
  refine g_iconst dL_law_908 ?_
  refine g_iadd dL_law_909 ?_
  refine g_sld ⟨by omega, by omega⟩ (by omega) dL_law_910 ?_
  rw [sX9]
  refine g_aload3 dL_law_911 ?_
  refine f_cS3H hF oYX_L_isEasy oT_L_isEasy (tt4 237 rfl rfl) rfl dL_law_912 (by omega) (by omega) rfl (okFb_of rfl) (fun σ1 l1 h1 => ?_)
  obtain ⟨hL1, hm⟩ := hM σ1 l1 h1
  have e9 := pcL_eq hL1
  refine g_istore6 dL_law_915 rfl (by decide) ?_
  refine g_aload2 dL_law_917 ?_
  refine g_aload0 dL_law_918 ?_
  refine g_iload5 dL_law_919 ?_
  refine g_iconst dL_law_921 ?_
  refine g_iadd dL_law_922 ?_
  refine g_sld ⟨by omega, by omega⟩ (by omega) dL_law_923 ?_
  rw [sX9]
  refine f_cV1q (hm) rfl (by decide) rfl oY_X6_isEasy oI_X6_isEasy lk_L_189 rfl dL_law_924 (by omega) (by omega) rfl (Or.inl rfl) (fun σ924 l924 h924 => ?_)
  obtain ⟨el, ht, hv, hJ2⟩ := h924
  subst el
  refine g_istore7 dL_law_927 rfl (by decide) ?_
  refine g_aload2 dL_law_929 ?_
  refine f_cV0w (thrown_m ht) rfl (by decide) rfl oY_X6_thrown oI_X6_thrown lk_L_159 rfl dL_law_930 rfl (Or.inl rfl) ?_
  refine g_iload6 dL_law_933 ?_
  refine g_icmp_eqS (tgt := 940) dL_law_935 rfl ?_
  rcases hQ with rfl | rfl
  · refine g_iload6 dL_law_940 ?_
    refine g_if_ne ⟨by omega, by omega⟩ (tgt := 964) dL_law_942 rfl (fun h942 => ?_) (fun h942 => ?_)
    · refine g_goto (tgt := 2895) dL_law_964 rfl ?_
      refine g_forget 6 (g_forget 7 ?_)
      exact next _ _ _ _ hJ2 (by omega) (by omega)
    · refine g_aload3 dL_law_945 ?_
      refine g_iconst dL_law_946 ?_
      refine f_lald rfl (by decide) ⟨by omega, by show _ < ((1 : Nat) : Int); omega⟩ dL_law_947 ?_
      rw [hv (by omega)]
      refine g_iload7 dL_law_948 ?_
      refine g_if_eq ⟨by decide, by decide⟩ (tgt := 957) dL_law_950 rfl (fun h950 => ?_) (fun h950 => absurd h950 (by decide))
      refine g_lconst0 dL_law_957 ?_
      refine g_lcmp ⟨by decide, by decide⟩ ⟨by decide, by decide⟩ dL_law_958 ?_
      refine g_if_eq_sg (tgt := 964) dL_law_959 rfl (fun h959 => ?_) (fun h959 => absurd h959 (fun z => z rfl))
      refine g_goto (tgt := 2895) dL_law_964 rfl ?_
      refine g_forget 6 (g_forget 7 ?_)
      exact next _ _ _ _ hJ2 (by omega) (by omega)
  · refine g_iload6 dL_law_940 ?_
    refine g_if_ne ⟨by omega, by omega⟩ (tgt := 964) dL_law_942 rfl (fun h942 => ?_) (fun h942 => ?_)
    · refine g_goto (tgt := 2895) dL_law_964 rfl ?_
      refine g_forget 6 (g_forget 7 ?_)
      exact next _ _ _ _ hJ2 (by omega) (by omega)
    · refine g_aload3 dL_law_945 ?_
      refine g_iconst dL_law_946 ?_
      refine f_lald rfl (by decide) ⟨by omega, by show _ < ((1 : Nat) : Int); omega⟩ dL_law_947 ?_
      rw [hv (by omega)]
      refine g_iload7 dL_law_948 ?_
      refine g_if_eq ⟨by decide, by decide⟩ (tgt := 957) dL_law_950 rfl (fun h950 => absurd h950 (by decide)) (fun h950 => ?_)
      refine g_lconst1 dL_law_953 ?_
      refine g_goto (tgt := 958) dL_law_954 rfl ?_
      refine g_lcmp ⟨by decide, by decide⟩ ⟨by decide, by decide⟩ dL_law_958 ?_
      refine g_if_eq_sg (tgt := 964) dL_law_959 rfl (fun h959 => ?_) (fun h959 => absurd h959 (fun z => z rfl))
      refine g_goto (tgt := 2895) dL_law_964 rfl ?_
      refine g_forget 6 (g_forget 7 ?_)
      exact next _ _ _ _ hJ2 (by omega) (by omega)
theorem lw_14 {c : Nat} {i : Int} {k n : Nat} (hi : 0 ≤ i ∧ i ≤ 2048) (hN : i + 4 ≤ (gN g : Int)) (hc : c < 512) (hJ : Jv (cB c) σ l) (hk : pcL l + (512 - c) ≤ k) (hn : psL l + 6 * (512 - c) ≤ n) (next : ∀ (τ : sT) (l' : Nat → Nat) (k n : Nat), Jv (cB (c + 1)) τ l' → pcL l' + (511 - c) ≤ k → psL l' + 6 * (511 - c) ≤ n → GW g zL_law k n Φ 2895 [some (.ref (KB + 1)), some (.ref 0), some (.ref 92), some (.ref 108), some (.ref 109), some (iv i), none, none, none, none] [] (mem τ l')) : GW g zL_law k n Φ 967 [some (.ref (KB + 1)), some (.ref 0), some (.ref 92), some (.ref 108), some (.ref 109), some (iv i), none, none, none, none] [] (mem σ l) := by
  have hpl := hJ.1
  obtain ⟨kc, b, L, RC, k2, n2, hkc, hQ, hG, hk2, hn2, hF, hM⟩ := st_plays (g := g) hJ (rI (gX g (i + 1).toNat))
  have hQ1 := hQ.1
  have hQ2 := hQ.2
  have hG1 := hG.1
  have hG2 := hG.2
  refine g_aload1 dL_law_967 ?_
  refine g_aload0 dL_law_968 ?_
  refine g_iload5 dL_law_969 ?_
  refine g_iconst dL_law_971 ?_
  refine g_iadd dL_law_972 ?_
  refine g_sld ⟨by omega, by omega⟩ (by omega) dL_law_973 ?_
  rw [sX9]
  refine g_aload3 dL_law_974 ?_
  refine f_cS3H hF oYX_L_plays oT_L_plays (tt5 4 rfl rfl) rfl dL_law_975 (by omega) (by omega) rfl (okFb_of rfl) (fun σ1 l1 h1 => ?_)
  obtain ⟨hL1, hm⟩ := hM σ1 l1 h1
  have e9 := pcL_eq hL1
  refine g_istore6 dL_law_978 rfl (by decide) ?_
  refine g_aload2 dL_law_980 ?_
  refine g_aload0 dL_law_981 ?_
  refine g_iload5 dL_law_982 ?_
  refine g_iconst dL_law_984 ?_
  refine g_iadd dL_law_985 ?_
  refine g_sld ⟨by omega, by omega⟩ (by omega) dL_law_986 ?_
  rw [sX9]
  refine f_cV1q (hm) rfl (by decide) rfl oY_X6_plays oI_X6_plays lk_L_192 rfl dL_law_987 (by omega) (by omega) rfl (Or.inl rfl) (fun σ987 l987 h987 => ?_)
  obtain ⟨el, ht, hv, hJ2⟩ := h987
  subst el
  refine g_istore7 dL_law_990 rfl (by decide) ?_
  refine g_aload2 dL_law_992 ?_
  refine f_cV0w (thrown_m ht) rfl (by decide) rfl oY_X6_thrown oI_X6_thrown lk_L_159 rfl dL_law_993 rfl (Or.inl rfl) ?_
  refine g_iload6 dL_law_996 ?_
  refine g_icmp_eqS (tgt := 1003) dL_law_998 rfl ?_
  refine g_iload6 dL_law_1003 ?_
  refine g_if_ne ⟨by omega, by omega⟩ (tgt := 1020) dL_law_1005 rfl (fun h1005 => ?_) (fun h1005 => ?_)
  · refine g_goto (tgt := 2895) dL_law_1020 rfl ?_
    refine g_forget 6 (g_forget 7 ?_)
    exact next _ _ _ _ hJ2 (by omega) (by omega)
  · refine g_aload3 dL_law_1008 ?_
    refine g_iconst dL_law_1009 ?_
    refine f_lald rfl (by decide) ⟨by omega, by show _ < ((1 : Nat) : Int); omega⟩ dL_law_1010 ?_
    rw [hv (by omega)]
    refine g_iload7 dL_law_1011 ?_
    refine g_i2l hQ dL_law_1013 ?_
    refine g_lcmp ⟨by omega, by omega⟩ ⟨by omega, by omega⟩ dL_law_1014 ?_
    refine g_if_eq_sg (tgt := 1020) dL_law_1015 rfl (fun h1015 => ?_) (fun h1015 => absurd h1015 (fun z => z rfl))
    refine g_goto (tgt := 2895) dL_law_1020 rfl ?_
    refine g_forget 6 (g_forget 7 ?_)
    exact next _ _ _ _ hJ2 (by omega) (by omega)
theorem lw_15 {c : Nat} {i : Int} {k n : Nat} (hi : 0 ≤ i ∧ i ≤ 2048) (hN : i + 4 ≤ (gN g : Int)) (hc : c < 512) (hJ : Jv (cB c) σ l) (hk : pcL l + (512 - c) ≤ k) (hn : psL l + 6 * (512 - c) ≤ n) (next : ∀ (τ : sT) (l' : Nat → Nat) (k n : Nat), Jv (cB (c + 1)) τ l' → pcL l' + (511 - c) ≤ k → psL l' + 6 * (511 - c) ≤ n → GW g zL_law k n Φ 2895 [some (.ref (KB + 1)), some (.ref 0), some (.ref 92), some (.ref 108), some (.ref 109), some (iv i), none, none, none, none] [] (mem τ l')) : GW g zL_law k n Φ 1023 [some (.ref (KB + 1)), some (.ref 0), some (.ref 92), some (.ref 108), some (.ref 109), some (iv i), none, none, none, none] [] (mem σ l) := by
  have hpl := hJ.1
  obtain ⟨kc, b, L, RC, k2, n2, hkc, hQ, hG, hk2, hn2, hF, hM⟩ := st_playOf (g := g) hJ (rI (gX g (i + 1).toNat)) (rI (gX g (i + 2).toNat))
  have hQ1 := hQ.1
  have hQ2 := hQ.2
  have hG1 := hG.1
  have hG2 := hG.2
  refine g_aload1 dL_law_1023 ?_
  refine g_aload0 dL_law_1024 ?_
  refine g_iload5 dL_law_1025 ?_
  refine g_iconst dL_law_1027 ?_
  refine g_iadd dL_law_1028 ?_
  refine g_sld ⟨by omega, by omega⟩ (by omega) dL_law_1029 ?_
  rw [sX9]
  refine g_aload0 dL_law_1030 ?_
  refine g_iload5 dL_law_1031 ?_
  refine g_iconst dL_law_1033 ?_
  refine g_iadd dL_law_1034 ?_
  refine g_sld ⟨by omega, by omega⟩ (by omega) dL_law_1035 ?_
  rw [sX9]
  refine g_aload3 dL_law_1036 ?_
  refine f_cS4H hF oYX_L_playOf oT_L_playOf (tt5 15 rfl rfl) rfl dL_law_1037 (by omega) (by omega) rfl (okFb_of rfl) (fun σ1 l1 h1 => ?_)
  obtain ⟨hL1, hm⟩ := hM σ1 l1 h1
  have e9 := pcL_eq hL1
  refine g_istore6 dL_law_1040 rfl (by decide) ?_
  refine g_aload2 dL_law_1042 ?_
  refine g_aload0 dL_law_1043 ?_
  refine g_iload5 dL_law_1044 ?_
  refine g_iconst dL_law_1046 ?_
  refine g_iadd dL_law_1047 ?_
  refine g_sld ⟨by omega, by omega⟩ (by omega) dL_law_1048 ?_
  rw [sX9]
  refine g_aload0 dL_law_1049 ?_
  refine g_iload5 dL_law_1050 ?_
  refine g_iconst dL_law_1052 ?_
  refine g_iadd dL_law_1053 ?_
  refine g_sld ⟨by omega, by omega⟩ (by omega) dL_law_1054 ?_
  rw [sX9]
  refine f_cV2q (hm) rfl (by decide) rfl oY_X6_playOf oI_X6_playOf lk_L_195 rfl dL_law_1055 (by omega) (by omega) rfl (Or.inl rfl) (fun σ1055 l1055 h1055 => ?_)
  obtain ⟨el, ht, hv, hJ2⟩ := h1055
  subst el
  refine g_istore7 dL_law_1058 rfl (by decide) ?_
  refine g_aload2 dL_law_1060 ?_
  refine f_cV0w (thrown_m ht) rfl (by decide) rfl oY_X6_thrown oI_X6_thrown lk_L_159 rfl dL_law_1061 rfl (Or.inl rfl) ?_
  refine g_iload6 dL_law_1064 ?_
  refine g_icmp_eqS (tgt := 1071) dL_law_1066 rfl ?_
  refine g_iload6 dL_law_1071 ?_
  refine g_if_ne ⟨by omega, by omega⟩ (tgt := 1088) dL_law_1073 rfl (fun h1073 => ?_) (fun h1073 => ?_)
  · refine g_goto (tgt := 2895) dL_law_1088 rfl ?_
    refine g_forget 6 (g_forget 7 ?_)
    exact next _ _ _ _ hJ2 (by omega) (by omega)
  · refine g_aload3 dL_law_1076 ?_
    refine g_iconst dL_law_1077 ?_
    refine f_lald rfl (by decide) ⟨by omega, by show _ < ((1 : Nat) : Int); omega⟩ dL_law_1078 ?_
    rw [hv (by omega)]
    refine g_iload7 dL_law_1079 ?_
    refine g_i2l hQ dL_law_1081 ?_
    refine g_lcmp ⟨by omega, by omega⟩ ⟨by omega, by omega⟩ dL_law_1082 ?_
    refine g_if_eq_sg (tgt := 1088) dL_law_1083 rfl (fun h1083 => ?_) (fun h1083 => absurd h1083 (fun z => z rfl))
    refine g_goto (tgt := 2895) dL_law_1088 rfl ?_
    refine g_forget 6 (g_forget 7 ?_)
    exact next _ _ _ _ hJ2 (by omega) (by omega)
theorem lw_16 {c : Nat} {i : Int} {k n : Nat} (hi : 0 ≤ i ∧ i ≤ 2048) (hN : i + 4 ≤ (gN g : Int)) (hc : c < 512) (hJ : Jv (cB c) σ l) (hk : pcL l + (512 - c) ≤ k) (hn : psL l + 6 * (512 - c) ≤ n) (next : ∀ (τ : sT) (l' : Nat → Nat) (k n : Nat), Jv (cB (c + 1)) τ l' → pcL l' + (511 - c) ≤ k → psL l' + 6 * (511 - c) ≤ n → GW g zL_law k n Φ 2895 [some (.ref (KB + 1)), some (.ref 0), some (.ref 92), some (.ref 108), some (.ref 109), some (iv i), none, none, none, none] [] (mem τ l')) : GW g zL_law k n Φ 1091 [some (.ref (KB + 1)), some (.ref 0), some (.ref 92), some (.ref 108), some (.ref 109), some (iv i), none, none, none, none] [] (mem σ l) := by
  have hpl := hJ.1
  obtain ⟨kc, b, L, RC, k2, n2, hkc, hQ, hG, hk2, hn2, hF, hM⟩ := st_truest (g := g) hJ (rI (gX g (i + 1).toNat))
  have hQ1 := hQ.1
  have hQ2 := hQ.2
  have hG1 := hG.1
  have hG2 := hG.2
  refine g_aload1 dL_law_1091 ?_
  refine g_aload0 dL_law_1092 ?_
  refine g_iload5 dL_law_1093 ?_
  refine g_iconst dL_law_1095 ?_
  refine g_iadd dL_law_1096 ?_
  refine g_sld ⟨by omega, by omega⟩ (by omega) dL_law_1097 ?_
  rw [sX9]
  refine g_aload3 dL_law_1098 ?_
  refine f_cS3H hF oYX_L_truest oT_L_truest (tt5 23 rfl rfl) rfl dL_law_1099 (by omega) (by omega) rfl (okFb_of rfl) (fun σ1 l1 h1 => ?_)
  obtain ⟨hL1, hm⟩ := hM σ1 l1 h1
  have e9 := pcL_eq hL1
  refine g_istore6 dL_law_1102 rfl (by decide) ?_
  refine g_aload2 dL_law_1104 ?_
  refine g_aload0 dL_law_1105 ?_
  refine g_iload5 dL_law_1106 ?_
  refine g_iconst dL_law_1108 ?_
  refine g_iadd dL_law_1109 ?_
  refine g_sld ⟨by omega, by omega⟩ (by omega) dL_law_1110 ?_
  rw [sX9]
  refine f_cV1q (hm) rfl (by decide) rfl oY_X6_truest oI_X6_truest lk_L_198 rfl dL_law_1111 (by omega) (by omega) rfl (Or.inl rfl) (fun σ1111 l1111 h1111 => ?_)
  obtain ⟨el, ht, hv, hJ2⟩ := h1111
  subst el
  refine g_istore7 dL_law_1114 rfl (by decide) ?_
  refine g_aload2 dL_law_1116 ?_
  refine f_cV0w (thrown_m ht) rfl (by decide) rfl oY_X6_thrown oI_X6_thrown lk_L_159 rfl dL_law_1117 rfl (Or.inl rfl) ?_
  refine g_iload6 dL_law_1120 ?_
  refine g_icmp_eqS (tgt := 1127) dL_law_1122 rfl ?_
  refine g_iload6 dL_law_1127 ?_
  refine g_if_ne ⟨by omega, by omega⟩ (tgt := 1144) dL_law_1129 rfl (fun h1129 => ?_) (fun h1129 => ?_)
  · refine g_goto (tgt := 2895) dL_law_1144 rfl ?_
    refine g_forget 6 (g_forget 7 ?_)
    exact next _ _ _ _ hJ2 (by omega) (by omega)
  · refine g_aload3 dL_law_1132 ?_
    refine g_iconst dL_law_1133 ?_
    refine f_lald rfl (by decide) ⟨by omega, by show _ < ((1 : Nat) : Int); omega⟩ dL_law_1134 ?_
    rw [hv (by omega)]
    refine g_iload7 dL_law_1135 ?_
    refine g_i2l hQ dL_law_1137 ?_
    refine g_lcmp ⟨by omega, by omega⟩ ⟨by omega, by omega⟩ dL_law_1138 ?_
    refine g_if_eq_sg (tgt := 1144) dL_law_1139 rfl (fun h1139 => ?_) (fun h1139 => absurd h1139 (fun z => z rfl))
    refine g_goto (tgt := 2895) dL_law_1144 rfl ?_
    refine g_forget 6 (g_forget 7 ?_)
    exact next _ _ _ _ hJ2 (by omega) (by omega)
theorem lw_17 {c : Nat} {i : Int} {k n : Nat} (hi : 0 ≤ i ∧ i ≤ 2048) (hN : i + 4 ≤ (gN g : Int)) (hc : c < 512) (hJ : Jv (cB c) σ l) (hk : pcL l + (512 - c) ≤ k) (hn : psL l + 6 * (512 - c) ≤ n) (next : ∀ (τ : sT) (l' : Nat → Nat) (k n : Nat), Jv (cB (c + 1)) τ l' → pcL l' + (511 - c) ≤ k → psL l' + 6 * (511 - c) ≤ n → GW g zL_law k n Φ 2895 [some (.ref (KB + 1)), some (.ref 0), some (.ref 92), some (.ref 108), some (.ref 109), some (iv i), none, none, none, none] [] (mem τ l')) : GW g zL_law k n Φ 1147 [some (.ref (KB + 1)), some (.ref 0), some (.ref 92), some (.ref 108), some (.ref 109), some (iv i), none, none, none, none] [] (mem σ l) := by
  obtain ⟨L, RC, k2, n2, hG, hk2, hn2, hF, hM⟩ := s2_lacking (g := g) hJ
  have hG1 := hG.1
  have hG2 := hG.2
  refine g_aload1 dL_law_1147 ?_
  refine f_cV0q (hF) rfl (by decide) rfl oY_X5_lacking oI_X5_lacking lk_L_199 rfl dL_law_1148 (by omega) (by omega) rfl (okFb_of rfl) (fun σ1148 l1148 h1148 => ?_)
  obtain ⟨hL1, hm⟩ := hM σ1148 l1148 h1148
  have e9 := pcL_eq hL1
  refine g_aload2 dL_law_1151 ?_
  refine f_cV0q (hm) rfl (by decide) rfl oY_X6_lacking oI_X6_lacking lk_L_202 rfl dL_law_1152 (by omega) (by omega) rfl (Or.inl rfl) (fun σ1152 l1152 h1152 => ?_)
  obtain ⟨el, hJ2⟩ := h1152
  subst el
  refine g_icmp_eqS (tgt := 2895) dL_law_1155 rfl ?_
  exact next _ _ _ _ hJ2 (by omega) (by omega)
theorem lw_18 {c : Nat} {i : Int} {k n : Nat} (hi : 0 ≤ i ∧ i ≤ 2048) (hN : i + 4 ≤ (gN g : Int)) (hc : c < 512) (hJ : Jv (cB c) σ l) (hk : pcL l + (512 - c) ≤ k) (hn : psL l + 6 * (512 - c) ≤ n) (next : ∀ (τ : sT) (l' : Nat → Nat) (k n : Nat), Jv (cB (c + 1)) τ l' → pcL l' + (511 - c) ≤ k → psL l' + 6 * (511 - c) ≤ n → GW g zL_law k n Φ 2895 [some (.ref (KB + 1)), some (.ref 0), some (.ref 92), some (.ref 108), some (.ref 109), some (iv i), none, none, none, none] [] (mem τ l')) : GW g zL_law k n Φ 1160 [some (.ref (KB + 1)), some (.ref 0), some (.ref 92), some (.ref 108), some (.ref 109), some (iv i), none, none, none, none] [] (mem σ l) := by
  have hpl := hJ.1
  obtain ⟨kc, b, L, RC, k2, n2, hkc, hQ, hG, hk2, hn2, hF, hM⟩ := st_change (g := g) hJ (rI (gX g (i + 1).toNat)) (rI (gX g (i + 2).toNat))
  have hQ1 := hQ.1
  have hQ2 := hQ.2
  have hG1 := hG.1
  have hG2 := hG.2
  refine g_aload1 dL_law_1160 ?_
  refine g_aload0 dL_law_1161 ?_
  refine g_iload5 dL_law_1162 ?_
  refine g_iconst dL_law_1164 ?_
  refine g_iadd dL_law_1165 ?_
  refine g_sld ⟨by omega, by omega⟩ (by omega) dL_law_1166 ?_
  rw [sX9]
  refine g_aload0 dL_law_1167 ?_
  refine g_iload5 dL_law_1168 ?_
  refine g_iconst dL_law_1170 ?_
  refine g_iadd dL_law_1171 ?_
  refine g_sld ⟨by omega, by omega⟩ (by omega) dL_law_1172 ?_
  rw [sX9]
  refine g_aload3 dL_law_1173 ?_
  refine f_cS4H hF oYX_L_change oT_L_change (tt5 30 rfl rfl) rfl dL_law_1174 (by omega) (by omega) rfl (okFb_of rfl) (fun σ1 l1 h1 => ?_)
  obtain ⟨hL1, hm⟩ := hM σ1 l1 h1
  have e9 := pcL_eq hL1
  refine g_istore6 dL_law_1177 rfl (by decide) ?_
  refine g_aload2 dL_law_1179 ?_
  refine g_aload0 dL_law_1180 ?_
  refine g_iload5 dL_law_1181 ?_
  refine g_iconst dL_law_1183 ?_
  refine g_iadd dL_law_1184 ?_
  refine g_sld ⟨by omega, by omega⟩ (by omega) dL_law_1185 ?_
  rw [sX9]
  refine g_aload0 dL_law_1186 ?_
  refine g_iload5 dL_law_1187 ?_
  refine g_iconst dL_law_1189 ?_
  refine g_iadd dL_law_1190 ?_
  refine g_sld ⟨by omega, by omega⟩ (by omega) dL_law_1191 ?_
  rw [sX9]
  refine f_cV2q (hm) rfl (by decide) rfl oY_X6_change oI_X6_change lk_L_205 rfl dL_law_1192 (by omega) (by omega) rfl (Or.inl rfl) (fun σ1192 l1192 h1192 => ?_)
  obtain ⟨el, ht, hv, hJ2⟩ := h1192
  subst el
  refine g_istore7 dL_law_1195 rfl (by decide) ?_
  refine g_aload2 dL_law_1197 ?_
  refine f_cV0w (thrown_m ht) rfl (by decide) rfl oY_X6_thrown oI_X6_thrown lk_L_159 rfl dL_law_1198 rfl (Or.inl rfl) ?_
  refine g_iload6 dL_law_1201 ?_
  refine g_icmp_eqS (tgt := 1208) dL_law_1203 rfl ?_
  refine g_iload6 dL_law_1208 ?_
  refine g_if_ne ⟨by omega, by omega⟩ (tgt := 1225) dL_law_1210 rfl (fun h1210 => ?_) (fun h1210 => ?_)
  · refine g_goto (tgt := 2895) dL_law_1225 rfl ?_
    refine g_forget 6 (g_forget 7 ?_)
    exact next _ _ _ _ hJ2 (by omega) (by omega)
  · refine g_aload3 dL_law_1213 ?_
    refine g_iconst dL_law_1214 ?_
    refine f_lald rfl (by decide) ⟨by omega, by show _ < ((1 : Nat) : Int); omega⟩ dL_law_1215 ?_
    rw [hv (by omega)]
    refine g_iload7 dL_law_1216 ?_
    refine g_i2l hQ dL_law_1218 ?_
    refine g_lcmp ⟨by omega, by omega⟩ ⟨by omega, by omega⟩ dL_law_1219 ?_
    refine g_if_eq_sg (tgt := 1225) dL_law_1220 rfl (fun h1220 => ?_) (fun h1220 => absurd h1220 (fun z => z rfl))
    refine g_goto (tgt := 2895) dL_law_1225 rfl ?_
    refine g_forget 6 (g_forget 7 ?_)
    exact next _ _ _ _ hJ2 (by omega) (by omega)
theorem lw_19 {c : Nat} {i : Int} {k n : Nat} (hi : 0 ≤ i ∧ i ≤ 2048) (hN : i + 4 ≤ (gN g : Int)) (hc : c < 512) (hJ : Jv (cB c) σ l) (hk : pcL l + (512 - c) ≤ k) (hn : psL l + 6 * (512 - c) ≤ n) (next : ∀ (τ : sT) (l' : Nat → Nat) (k n : Nat), Jv (cB (c + 1)) τ l' → pcL l' + (511 - c) ≤ k → psL l' + 6 * (511 - c) ≤ n → GW g zL_law k n Φ 2895 [some (.ref (KB + 1)), some (.ref 0), some (.ref 92), some (.ref 108), some (.ref 109), some (iv i), none, none, none, none] [] (mem τ l')) : GW g zL_law k n Φ 1228 [some (.ref (KB + 1)), some (.ref 0), some (.ref 92), some (.ref 108), some (.ref 109), some (iv i), none, none, none, none] [] (mem σ l) := by
  have hpl := hJ.1
  obtain ⟨kc, b, L, RC, k2, n2, hkc, hQ, hG, hk2, hn2, hF, hM⟩ := st_fingers (g := g) hJ (rI (gX g (i + 1).toNat)) (rI (gX g (i + 2).toNat))
  have hQ1 := hQ.1
  have hQ2 := hQ.2
  have hG1 := hG.1
  have hG2 := hG.2
  refine g_aload1 dL_law_1228 ?_
  refine g_aload0 dL_law_1229 ?_
  refine g_iload5 dL_law_1230 ?_
  refine g_iconst dL_law_1232 ?_
  refine g_iadd dL_law_1233 ?_
  refine g_sld ⟨by omega, by omega⟩ (by omega) dL_law_1234 ?_
  rw [sX9]
  refine g_aload0 dL_law_1235 ?_
  refine g_iload5 dL_law_1236 ?_
  refine g_iconst dL_law_1238 ?_
  refine g_iadd dL_law_1239 ?_
  refine g_sld ⟨by omega, by omega⟩ (by omega) dL_law_1240 ?_
  rw [sX9]
  refine g_aload3 dL_law_1241 ?_
  refine f_cS4H hF oYX_L_fingers oT_L_fingers (tt5 37 rfl rfl) rfl dL_law_1242 (by omega) (by omega) rfl (okFb_of rfl) (fun σ1 l1 h1 => ?_)
  obtain ⟨hL1, hm⟩ := hM σ1 l1 h1
  have e9 := pcL_eq hL1
  refine g_istore6 dL_law_1245 rfl (by decide) ?_
  refine g_aload2 dL_law_1247 ?_
  refine g_aload0 dL_law_1248 ?_
  refine g_iload5 dL_law_1249 ?_
  refine g_iconst dL_law_1251 ?_
  refine g_iadd dL_law_1252 ?_
  refine g_sld ⟨by omega, by omega⟩ (by omega) dL_law_1253 ?_
  rw [sX9]
  refine g_aload0 dL_law_1254 ?_
  refine g_iload5 dL_law_1255 ?_
  refine g_iconst dL_law_1257 ?_
  refine g_iadd dL_law_1258 ?_
  refine g_sld ⟨by omega, by omega⟩ (by omega) dL_law_1259 ?_
  rw [sX9]
  refine f_cV2q (hm) rfl (by decide) rfl oY_X6_fingers oI_X6_fingers lk_L_208 rfl dL_law_1260 (by omega) (by omega) rfl (Or.inl rfl) (fun σ1260 l1260 h1260 => ?_)
  obtain ⟨el, ht, hv, hJ2⟩ := h1260
  subst el
  refine g_istore7 dL_law_1263 rfl (by decide) ?_
  refine g_aload2 dL_law_1265 ?_
  refine f_cV0w (thrown_m ht) rfl (by decide) rfl oY_X6_thrown oI_X6_thrown lk_L_159 rfl dL_law_1266 rfl (Or.inl rfl) ?_
  refine g_iload6 dL_law_1269 ?_
  refine g_icmp_eqS (tgt := 1276) dL_law_1271 rfl ?_
  refine g_iload6 dL_law_1276 ?_
  refine g_if_ne ⟨by omega, by omega⟩ (tgt := 1293) dL_law_1278 rfl (fun h1278 => ?_) (fun h1278 => ?_)
  · refine g_goto (tgt := 2895) dL_law_1293 rfl ?_
    refine g_forget 6 (g_forget 7 ?_)
    exact next _ _ _ _ hJ2 (by omega) (by omega)
  · refine g_aload3 dL_law_1281 ?_
    refine g_iconst dL_law_1282 ?_
    refine f_lald rfl (by decide) ⟨by omega, by show _ < ((1 : Nat) : Int); omega⟩ dL_law_1283 ?_
    rw [hv (by omega)]
    refine g_iload7 dL_law_1284 ?_
    refine g_i2l hQ dL_law_1286 ?_
    refine g_lcmp ⟨by omega, by omega⟩ ⟨by omega, by omega⟩ dL_law_1287 ?_
    refine g_if_eq_sg (tgt := 1293) dL_law_1288 rfl (fun h1288 => ?_) (fun h1288 => absurd h1288 (fun z => z rfl))
    refine g_goto (tgt := 2895) dL_law_1293 rfl ?_
    refine g_forget 6 (g_forget 7 ?_)
    exact next _ _ _ _ hJ2 (by omega) (by omega)
theorem lw_20 {c : Nat} {i : Int} {k n : Nat} (hi : 0 ≤ i ∧ i ≤ 2048) (hN : i + 4 ≤ (gN g : Int)) (hc : c < 512) (hJ : Jv (cB c) σ l) (hk : pcL l + (512 - c) ≤ k) (hn : psL l + 6 * (512 - c) ≤ n) (next : ∀ (τ : sT) (l' : Nat → Nat) (k n : Nat), Jv (cB (c + 1)) τ l' → pcL l' + (511 - c) ≤ k → psL l' + 6 * (511 - c) ≤ n → GW g zL_law k n Φ 2895 [some (.ref (KB + 1)), some (.ref 0), some (.ref 92), some (.ref 108), some (.ref 109), some (iv i), none, none, none, none] [] (mem τ l')) : GW g zL_law k n Φ 1296 [some (.ref (KB + 1)), some (.ref 0), some (.ref 92), some (.ref 108), some (.ref 109), some (iv i), none, none, none, none] [] (mem σ l) := by
  have hpl := hJ.1
  obtain ⟨kc, b, L, RC, k2, n2, hkc, hQ, hG, hk2, hn2, hF, hM⟩ := st_nearest (g := g) hJ (rI (gX g (i + 1).toNat))
  have hQ1 := hQ.1
  have hQ2 := hQ.2
  have hG1 := hG.1
  have hG2 := hG.2
  refine g_aload1 dL_law_1296 ?_
  refine g_aload0 dL_law_1297 ?_
  refine g_iload5 dL_law_1298 ?_
  refine g_iconst dL_law_1300 ?_
  refine g_iadd dL_law_1301 ?_
  refine g_sld ⟨by omega, by omega⟩ (by omega) dL_law_1302 ?_
  rw [sX9]
  refine g_aload3 dL_law_1303 ?_
  refine f_cS3H hF oYX_L_nearest oT_L_nearest (tt5 45 rfl rfl) rfl dL_law_1304 (by omega) (by omega) rfl (okFb_of rfl) (fun σ1 l1 h1 => ?_)
  obtain ⟨hL1, hm⟩ := hM σ1 l1 h1
  have e9 := pcL_eq hL1
  refine g_istore6 dL_law_1307 rfl (by decide) ?_
  refine g_aload2 dL_law_1309 ?_
  refine g_aload0 dL_law_1310 ?_
  refine g_iload5 dL_law_1311 ?_
  refine g_iconst dL_law_1313 ?_
  refine g_iadd dL_law_1314 ?_
  refine g_sld ⟨by omega, by omega⟩ (by omega) dL_law_1315 ?_
  rw [sX9]
  refine f_cV1q (hm) rfl (by decide) rfl oY_X6_nearest oI_X6_nearest lk_L_211 rfl dL_law_1316 (by omega) (by omega) rfl (Or.inl rfl) (fun σ1316 l1316 h1316 => ?_)
  obtain ⟨el, ht, hv, hJ2⟩ := h1316
  subst el
  refine g_istore7 dL_law_1319 rfl (by decide) ?_
  refine g_aload2 dL_law_1321 ?_
  refine f_cV0w (thrown_m ht) rfl (by decide) rfl oY_X6_thrown oI_X6_thrown lk_L_159 rfl dL_law_1322 rfl (Or.inl rfl) ?_
  refine g_iload6 dL_law_1325 ?_
  refine g_icmp_eqS (tgt := 1332) dL_law_1327 rfl ?_
  refine g_iload6 dL_law_1332 ?_
  refine g_if_ne ⟨by omega, by omega⟩ (tgt := 1349) dL_law_1334 rfl (fun h1334 => ?_) (fun h1334 => ?_)
  · refine g_goto (tgt := 2895) dL_law_1349 rfl ?_
    refine g_forget 6 (g_forget 7 ?_)
    exact next _ _ _ _ hJ2 (by omega) (by omega)
  · refine g_aload3 dL_law_1337 ?_
    refine g_iconst dL_law_1338 ?_
    refine f_lald rfl (by decide) ⟨by omega, by show _ < ((1 : Nat) : Int); omega⟩ dL_law_1339 ?_
    rw [hv (by omega)]
    refine g_iload7 dL_law_1340 ?_
    refine g_i2l hQ dL_law_1342 ?_
    refine g_lcmp ⟨by omega, by omega⟩ ⟨by omega, by omega⟩ dL_law_1343 ?_
    refine g_if_eq_sg (tgt := 1349) dL_law_1344 rfl (fun h1344 => ?_) (fun h1344 => absurd h1344 (fun z => z rfl))
    refine g_goto (tgt := 2895) dL_law_1349 rfl ?_
    refine g_forget 6 (g_forget 7 ?_)
    exact next _ _ _ _ hJ2 (by omega) (by omega)
theorem lw_21 {c : Nat} {i : Int} {k n : Nat} (hi : 0 ≤ i ∧ i ≤ 2048) (hN : i + 4 ≤ (gN g : Int)) (hc : c < 512) (hJ : Jv (cB c) σ l) (hk : pcL l + (512 - c) ≤ k) (hn : psL l + 6 * (512 - c) ≤ n) (next : ∀ (τ : sT) (l' : Nat → Nat) (k n : Nat), Jv (cB (c + 1)) τ l' → pcL l' + (511 - c) ≤ k → psL l' + 6 * (511 - c) ≤ n → GW g zL_law k n Φ 2895 [some (.ref (KB + 1)), some (.ref 0), some (.ref 92), some (.ref 108), some (.ref 109), some (iv i), none, none, none, none] [] (mem τ l')) : GW g zL_law k n Φ 1352 [some (.ref (KB + 1)), some (.ref 0), some (.ref 92), some (.ref 108), some (.ref 109), some (iv i), none, none, none, none] [] (mem σ l) := by
  have hpl := hJ.1
  obtain ⟨kc, b, L, RC, k2, n2, hkc, hQ, hG, hk2, hn2, hF, hM⟩ := st_note (g := g) hJ (rI (gX g (i + 1).toNat))
  have hQ1 := hQ.1
  have hQ2 := hQ.2
  have hG1 := hG.1
  have hG2 := hG.2
  refine g_aload1 dL_law_1352 ?_
  refine g_aload0 dL_law_1353 ?_
  refine g_iload5 dL_law_1354 ?_
  refine g_iconst dL_law_1356 ?_
  refine g_iadd dL_law_1357 ?_
  refine g_sld ⟨by omega, by omega⟩ (by omega) dL_law_1358 ?_
  rw [sX9]
  refine g_aload3 dL_law_1359 ?_
  refine f_cS3H hF oYX_L_note oT_L_note (tt5 52 rfl rfl) rfl dL_law_1360 (by omega) (by omega) rfl (okFb_of rfl) (fun σ1 l1 h1 => ?_)
  obtain ⟨hL1, hm⟩ := hM σ1 l1 h1
  have e9 := pcL_eq hL1
  refine g_istore6 dL_law_1363 rfl (by decide) ?_
  refine g_aload2 dL_law_1365 ?_
  refine g_aload0 dL_law_1366 ?_
  refine g_iload5 dL_law_1367 ?_
  refine g_iconst dL_law_1369 ?_
  refine g_iadd dL_law_1370 ?_
  refine g_sld ⟨by omega, by omega⟩ (by omega) dL_law_1371 ?_
  rw [sX9]
  refine f_cV1q (hm) rfl (by decide) rfl oY_X6_note oI_X6_note lk_L_214 rfl dL_law_1372 (by omega) (by omega) rfl (Or.inl rfl) (fun σ1372 l1372 h1372 => ?_)
  obtain ⟨el, ht, hv, hJ2⟩ := h1372
  subst el
  refine g_istore7 dL_law_1375 rfl (by decide) ?_
  refine g_aload2 dL_law_1377 ?_
  refine f_cV0w (thrown_m ht) rfl (by decide) rfl oY_X6_thrown oI_X6_thrown lk_L_159 rfl dL_law_1378 rfl (Or.inl rfl) ?_
  refine g_iload6 dL_law_1381 ?_
  refine g_icmp_eqS (tgt := 1388) dL_law_1383 rfl ?_
  refine g_iload6 dL_law_1388 ?_
  refine g_if_ne ⟨by omega, by omega⟩ (tgt := 1405) dL_law_1390 rfl (fun h1390 => ?_) (fun h1390 => ?_)
  · refine g_goto (tgt := 2895) dL_law_1405 rfl ?_
    refine g_forget 6 (g_forget 7 ?_)
    exact next _ _ _ _ hJ2 (by omega) (by omega)
  · refine g_aload3 dL_law_1393 ?_
    refine g_iconst dL_law_1394 ?_
    refine f_lald rfl (by decide) ⟨by omega, by show _ < ((1 : Nat) : Int); omega⟩ dL_law_1395 ?_
    rw [hv (by omega)]
    refine g_iload7 dL_law_1396 ?_
    refine g_i2l hQ dL_law_1398 ?_
    refine g_lcmp ⟨by omega, by omega⟩ ⟨by omega, by omega⟩ dL_law_1399 ?_
    refine g_if_eq_sg (tgt := 1405) dL_law_1400 rfl (fun h1400 => ?_) (fun h1400 => absurd h1400 (fun z => z rfl))
    refine g_goto (tgt := 2895) dL_law_1405 rfl ?_
    refine g_forget 6 (g_forget 7 ?_)
    exact next _ _ _ _ hJ2 (by omega) (by omega)
theorem lw_22 {c : Nat} {i : Int} {k n : Nat} (hi : 0 ≤ i ∧ i ≤ 2048) (hN : i + 4 ≤ (gN g : Int)) (hc : c < 512) (hJ : Jv (cB c) σ l) (hk : pcL l + (512 - c) ≤ k) (hn : psL l + 6 * (512 - c) ≤ n) (next : ∀ (τ : sT) (l' : Nat → Nat) (k n : Nat), Jv (cB (c + 1)) τ l' → pcL l' + (511 - c) ≤ k → psL l' + 6 * (511 - c) ≤ n → GW g zL_law k n Φ 2895 [some (.ref (KB + 1)), some (.ref 0), some (.ref 92), some (.ref 108), some (.ref 109), some (iv i), none, none, none, none] [] (mem τ l')) : GW g zL_law k n Φ 1408 [some (.ref (KB + 1)), some (.ref 0), some (.ref 92), some (.ref 108), some (.ref 109), some (iv i), none, none, none, none] [] (mem σ l) := by
  obtain ⟨L, RC, k2, n2, hG, hk2, hn2, hF, hM⟩ := s2_isPlayable (g := g) hJ
  have hG1 := hG.1
  have hG2 := hG.2
  refine g_aload1 dL_law_1408 ?_
  refine f_cV0q (hF) rfl (by decide) rfl oY_X5_isPlayable oI_X5_isPlayable lk_L_215 rfl dL_law_1409 (by omega) (by omega) rfl (okFb_of rfl) (fun σ1409 l1409 h1409 => ?_)
  obtain ⟨hL1, hm⟩ := hM σ1409 l1409 h1409
  have e9 := pcL_eq hL1
  refine g_aload2 dL_law_1412 ?_
  refine f_cV0q (hm) rfl (by decide) rfl oY_X6_isPlayable oI_X6_isPlayable lk_L_219 rfl dL_law_1413 (by omega) (by omega) rfl (Or.inl rfl) (fun σ1413 l1413 h1413 => ?_)
  obtain ⟨el, hJ2⟩ := h1413
  subst el
  refine g_icmp_eqS (tgt := 2895) dL_law_1416 rfl ?_
  exact next _ _ _ _ hJ2 (by omega) (by omega)
theorem lw_23 {c : Nat} {i : Int} {k n : Nat} (hi : 0 ≤ i ∧ i ≤ 2048) (hN : i + 4 ≤ (gN g : Int)) (hc : c < 512) (hJ : Jv (cB c) σ l) (hk : pcL l + (512 - c) ≤ k) (hn : psL l + 6 * (512 - c) ≤ n) (next : ∀ (τ : sT) (l' : Nat → Nat) (k n : Nat), Jv (cB (c + 1)) τ l' → pcL l' + (511 - c) ≤ k → psL l' + 6 * (511 - c) ≤ n → GW g zL_law k n Φ 2895 [some (.ref (KB + 1)), some (.ref 0), some (.ref 92), some (.ref 108), some (.ref 109), some (iv i), none, none, none, none] [] (mem τ l')) : GW g zL_law k n Φ 1421 [some (.ref (KB + 1)), some (.ref 0), some (.ref 92), some (.ref 108), some (.ref 109), some (iv i), none, none, none, none] [] (mem σ l) := by
  obtain ⟨L, RC, k2, n2, hG, hk2, hn2, hF, hM⟩ := s2_firstLacking (g := g) hJ
  have hG1 := hG.1
  have hG2 := hG.2
  refine g_aload1 dL_law_1421 ?_
  refine f_cV0q (hF) rfl (by decide) rfl oY_X5_firstLacking oI_X5_firstLacking lk_L_220 rfl dL_law_1422 (by omega) (by omega) rfl (okFb_of rfl) (fun σ1422 l1422 h1422 => ?_)
  obtain ⟨hL1, hm⟩ := hM σ1422 l1422 h1422
  have e9 := pcL_eq hL1
  refine g_aload2 dL_law_1425 ?_
  refine f_cV0q (hm) rfl (by decide) rfl oY_X6_firstLacking oI_X6_firstLacking lk_L_223 rfl dL_law_1426 (by omega) (by omega) rfl (Or.inl rfl) (fun σ1426 l1426 h1426 => ?_)
  obtain ⟨el, hJ2⟩ := h1426
  subst el
  refine g_icmp_eqS (tgt := 2895) dL_law_1429 rfl ?_
  exact next _ _ _ _ hJ2 (by omega) (by omega)
theorem lw_24 {c : Nat} {i : Int} {k n : Nat} (hi : 0 ≤ i ∧ i ≤ 2048) (hN : i + 4 ≤ (gN g : Int)) (hc : c < 512) (hJ : Jv (cB c) σ l) (hk : pcL l + (512 - c) ≤ k) (hn : psL l + 6 * (512 - c) ≤ n) (next : ∀ (τ : sT) (l' : Nat → Nat) (k n : Nat), Jv (cB (c + 1)) τ l' → pcL l' + (511 - c) ≤ k → psL l' + 6 * (511 - c) ≤ n → GW g zL_law k n Φ 2895 [some (.ref (KB + 1)), some (.ref 0), some (.ref 92), some (.ref 108), some (.ref 109), some (iv i), none, none, none, none] [] (mem τ l')) : GW g zL_law k n Φ 1434 [some (.ref (KB + 1)), some (.ref 0), some (.ref 92), some (.ref 108), some (.ref 109), some (iv i), none, none, none, none] [] (mem σ l) := by
  obtain ⟨L, RC, k2, n2, hG, hk2, hn2, hF, hM⟩ := s2_cost (g := g) hJ
  have hG1 := hG.1
  have hG2 := hG.2
  refine g_aload1 dL_law_1434 ?_
  refine f_cV0q (hF) rfl (by decide) rfl oY_X5_cost oI_X5_cost lk_L_224 rfl dL_law_1435 (by omega) (by omega) rfl (okFb_of rfl) (fun σ1435 l1435 h1435 => ?_)
  obtain ⟨hL1, hm⟩ := hM σ1435 l1435 h1435
  have e9 := pcL_eq hL1
  refine g_aload2 dL_law_1438 ?_
  refine f_cV0q (hm) rfl (by decide) rfl oY_X6_cost oI_X6_cost lk_L_227 rfl dL_law_1439 (by omega) (by omega) rfl (Or.inl rfl) (fun σ1439 l1439 h1439 => ?_)
  obtain ⟨el, hJ2⟩ := h1439
  subst el
  refine g_icmp_eqS (tgt := 2895) dL_law_1442 rfl ?_
  exact next _ _ _ _ hJ2 (by omega) (by omega)
theorem lw_25 {c : Nat} {i : Int} {k n : Nat} (hi : 0 ≤ i ∧ i ≤ 2048) (hN : i + 4 ≤ (gN g : Int)) (hc : c < 512) (hJ : Jv (cB c) σ l) (hk : pcL l + (512 - c) ≤ k) (hn : psL l + 6 * (512 - c) ≤ n) (next : ∀ (τ : sT) (l' : Nat → Nat) (k n : Nat), Jv (cB (c + 1)) τ l' → pcL l' + (511 - c) ≤ k → psL l' + 6 * (511 - c) ≤ n → GW g zL_law k n Φ 2895 [some (.ref (KB + 1)), some (.ref 0), some (.ref 92), some (.ref 108), some (.ref 109), some (iv i), none, none, none, none] [] (mem τ l')) : GW g zL_law k n Φ 1447 [some (.ref (KB + 1)), some (.ref 0), some (.ref 92), some (.ref 108), some (.ref 109), some (iv i), none, none, none, none] [] (mem σ l) := by
  have hpl := hJ.1
  obtain ⟨kc, b, L, RC, k2, n2, hkc, hQ, hG, hk2, hn2, hF, hM⟩ := st_wayPlay (g := g) hJ (rI (gX g (i + 1).toNat))
  have hQ1 := hQ.1
  have hQ2 := hQ.2
  have hG1 := hG.1
  have hG2 := hG.2
  refine g_aload1 dL_law_1447 ?_
  refine g_aload0 dL_law_1448 ?_
  refine g_iload5 dL_law_1449 ?_
  refine g_iconst dL_law_1451 ?_
  refine g_iadd dL_law_1452 ?_
  refine g_sld ⟨by omega, by omega⟩ (by omega) dL_law_1453 ?_
  rw [sX9]
  refine g_aload3 dL_law_1454 ?_
  refine f_cS3H hF oYX_L_wayPlay oT_L_wayPlay (tt5 63 rfl rfl) rfl dL_law_1455 (by omega) (by omega) rfl (okFb_of rfl) (fun σ1 l1 h1 => ?_)
  obtain ⟨hL1, hm⟩ := hM σ1 l1 h1
  have e9 := pcL_eq hL1
  refine g_istore6 dL_law_1458 rfl (by decide) ?_
  refine g_aload2 dL_law_1460 ?_
  refine g_aload0 dL_law_1461 ?_
  refine g_iload5 dL_law_1462 ?_
  refine g_iconst dL_law_1464 ?_
  refine g_iadd dL_law_1465 ?_
  refine g_sld ⟨by omega, by omega⟩ (by omega) dL_law_1466 ?_
  rw [sX9]
  refine f_cV1q (hm) rfl (by decide) rfl oY_X6_wayPlay oI_X6_wayPlay lk_L_230 rfl dL_law_1467 (by omega) (by omega) rfl (Or.inl rfl) (fun σ1467 l1467 h1467 => ?_)
  obtain ⟨el, ht, hv, hJ2⟩ := h1467
  subst el
  refine g_istore7 dL_law_1470 rfl (by decide) ?_
  refine g_aload2 dL_law_1472 ?_
  refine f_cV0w (thrown_m ht) rfl (by decide) rfl oY_X6_thrown oI_X6_thrown lk_L_159 rfl dL_law_1473 rfl (Or.inl rfl) ?_
  refine g_iload6 dL_law_1476 ?_
  refine g_icmp_eqS (tgt := 1483) dL_law_1478 rfl ?_
  refine g_iload6 dL_law_1483 ?_
  refine g_if_ne ⟨by omega, by omega⟩ (tgt := 1500) dL_law_1485 rfl (fun h1485 => ?_) (fun h1485 => ?_)
  · refine g_goto (tgt := 2895) dL_law_1500 rfl ?_
    refine g_forget 6 (g_forget 7 ?_)
    exact next _ _ _ _ hJ2 (by omega) (by omega)
  · refine g_aload3 dL_law_1488 ?_
    refine g_iconst dL_law_1489 ?_
    refine f_lald rfl (by decide) ⟨by omega, by show _ < ((1 : Nat) : Int); omega⟩ dL_law_1490 ?_
    rw [hv (by omega)]
    refine g_iload7 dL_law_1491 ?_
    refine g_i2l hQ dL_law_1493 ?_
    refine g_lcmp ⟨by omega, by omega⟩ ⟨by omega, by omega⟩ dL_law_1494 ?_
    refine g_if_eq_sg (tgt := 1500) dL_law_1495 rfl (fun h1495 => ?_) (fun h1495 => absurd h1495 (fun z => z rfl))
    refine g_goto (tgt := 2895) dL_law_1500 rfl ?_
    refine g_forget 6 (g_forget 7 ?_)
    exact next _ _ _ _ hJ2 (by omega) (by omega)
theorem lw_26 {c : Nat} {i : Int} {k n : Nat} (hi : 0 ≤ i ∧ i ≤ 2048) (hN : i + 4 ≤ (gN g : Int)) (hc : c < 512) (hJ : Jv (cB c) σ l) (hk : pcL l + (512 - c) ≤ k) (hn : psL l + 6 * (512 - c) ≤ n) (next : ∀ (τ : sT) (l' : Nat → Nat) (k n : Nat), Jv (cB (c + 1)) τ l' → pcL l' + (511 - c) ≤ k → psL l' + 6 * (511 - c) ≤ n → GW g zL_law k n Φ 2895 [some (.ref (KB + 1)), some (.ref 0), some (.ref 92), some (.ref 108), some (.ref 109), some (iv i), none, none, none, none] [] (mem τ l')) : GW g zL_law k n Φ 1503 [some (.ref (KB + 1)), some (.ref 0), some (.ref 92), some (.ref 108), some (.ref 109), some (iv i), none, none, none, none] [] (mem σ l) := by
  have hpl := hJ.1
  obtain ⟨kc, b, L, RC, k2, n2, hkc, hQ, hG, hk2, hn2, hF, hM⟩ := st_wayChange (g := g) hJ (rI (gX g (i + 1).toNat))
  have hQ1 := hQ.1
  have hQ2 := hQ.2
  have hG1 := hG.1
  have hG2 := hG.2
  refine g_aload1 dL_law_1503 ?_
  refine g_aload0 dL_law_1504 ?_
  refine g_iload5 dL_law_1505 ?_
  refine g_iconst dL_law_1507 ?_
  refine g_iadd dL_law_1508 ?_
  refine g_sld ⟨by omega, by omega⟩ (by omega) dL_law_1509 ?_
  rw [sX9]
  refine g_aload3 dL_law_1510 ?_
  refine f_cS3H hF oYX_L_wayChange oT_L_wayChange (tt5 70 rfl rfl) rfl dL_law_1511 (by omega) (by omega) rfl (okFb_of rfl) (fun σ1 l1 h1 => ?_)
  obtain ⟨hL1, hm⟩ := hM σ1 l1 h1
  have e9 := pcL_eq hL1
  refine g_istore6 dL_law_1514 rfl (by decide) ?_
  refine g_aload2 dL_law_1516 ?_
  refine g_aload0 dL_law_1517 ?_
  refine g_iload5 dL_law_1518 ?_
  refine g_iconst dL_law_1520 ?_
  refine g_iadd dL_law_1521 ?_
  refine g_sld ⟨by omega, by omega⟩ (by omega) dL_law_1522 ?_
  rw [sX9]
  refine f_cV1q (hm) rfl (by decide) rfl oY_X6_wayChange oI_X6_wayChange lk_L_233 rfl dL_law_1523 (by omega) (by omega) rfl (Or.inl rfl) (fun σ1523 l1523 h1523 => ?_)
  obtain ⟨el, ht, hv, hJ2⟩ := h1523
  subst el
  refine g_istore7 dL_law_1526 rfl (by decide) ?_
  refine g_aload2 dL_law_1528 ?_
  refine f_cV0w (thrown_m ht) rfl (by decide) rfl oY_X6_thrown oI_X6_thrown lk_L_159 rfl dL_law_1529 rfl (Or.inl rfl) ?_
  refine g_iload6 dL_law_1532 ?_
  refine g_icmp_eqS (tgt := 1539) dL_law_1534 rfl ?_
  refine g_iload6 dL_law_1539 ?_
  refine g_if_ne ⟨by omega, by omega⟩ (tgt := 1556) dL_law_1541 rfl (fun h1541 => ?_) (fun h1541 => ?_)
  · refine g_goto (tgt := 2895) dL_law_1556 rfl ?_
    refine g_forget 6 (g_forget 7 ?_)
    exact next _ _ _ _ hJ2 (by omega) (by omega)
  · refine g_aload3 dL_law_1544 ?_
    refine g_iconst dL_law_1545 ?_
    refine f_lald rfl (by decide) ⟨by omega, by show _ < ((1 : Nat) : Int); omega⟩ dL_law_1546 ?_
    rw [hv (by omega)]
    refine g_iload7 dL_law_1547 ?_
    refine g_i2l hQ dL_law_1549 ?_
    refine g_lcmp ⟨by omega, by omega⟩ ⟨by omega, by omega⟩ dL_law_1550 ?_
    refine g_if_eq_sg (tgt := 1556) dL_law_1551 rfl (fun h1551 => ?_) (fun h1551 => absurd h1551 (fun z => z rfl))
    refine g_goto (tgt := 2895) dL_law_1556 rfl ?_
    refine g_forget 6 (g_forget 7 ?_)
    exact next _ _ _ _ hJ2 (by omega) (by omega)
theorem lw_27 {c : Nat} {i : Int} {k n : Nat} (hi : 0 ≤ i ∧ i ≤ 2048) (hN : i + 4 ≤ (gN g : Int)) (hc : c < 512) (hJ : Jv (cB c) σ l) (hk : pcL l + (512 - c) ≤ k) (hn : psL l + 6 * (512 - c) ≤ n) (next : ∀ (τ : sT) (l' : Nat → Nat) (k n : Nat), Jv (cB (c + 1)) τ l' → pcL l' + (511 - c) ≤ k → psL l' + 6 * (511 - c) ≤ n → GW g zL_law k n Φ 2895 [some (.ref (KB + 1)), some (.ref 0), some (.ref 92), some (.ref 108), some (.ref 109), some (iv i), none, none, none, none] [] (mem τ l')) : GW g zL_law k n Φ 1559 [some (.ref (KB + 1)), some (.ref 0), some (.ref 92), some (.ref 108), some (.ref 109), some (iv i), none, none, none, none] [] (mem σ l) := by
  obtain ⟨L, RC, k2, n2, hG, hk2, hn2, hF, hM⟩ := s2_hardest (g := g) hJ
  have hG1 := hG.1
  have hG2 := hG.2
  refine g_aload1 dL_law_1559 ?_
  refine f_cV0q (hF) rfl (by decide) rfl oY_X5_hardest oI_X5_hardest lk_L_234 rfl dL_law_1560 (by omega) (by omega) rfl (okFb_of rfl) (fun σ1560 l1560 h1560 => ?_)
  obtain ⟨hL1, hm⟩ := hM σ1560 l1560 h1560
  have e9 := pcL_eq hL1
  refine g_aload2 dL_law_1563 ?_
  refine f_cV0q (hm) rfl (by decide) rfl oY_X6_hardest oI_X6_hardest lk_L_237 rfl dL_law_1564 (by omega) (by omega) rfl (Or.inl rfl) (fun σ1564 l1564 h1564 => ?_)
  obtain ⟨el, hJ2⟩ := h1564
  subst el
  refine g_icmp_eqS (tgt := 2895) dL_law_1567 rfl ?_
  exact next _ _ _ _ hJ2 (by omega) (by omega)
theorem lw_28 {c : Nat} {i : Int} {k n : Nat} (hi : 0 ≤ i ∧ i ≤ 2048) (hN : i + 4 ≤ (gN g : Int)) (hc : c < 512) (hJ : Jv (cB c) σ l) (hk : pcL l + (512 - c) ≤ k) (hn : psL l + 6 * (512 - c) ≤ n) (next : ∀ (τ : sT) (l' : Nat → Nat) (k n : Nat), Jv (cB (c + 1)) τ l' → pcL l' + (511 - c) ≤ k → psL l' + 6 * (511 - c) ≤ n → GW g zL_law k n Φ 2895 [some (.ref (KB + 1)), some (.ref 0), some (.ref 92), some (.ref 108), some (.ref 109), some (iv i), none, none, none, none] [] (mem τ l')) : GW g zL_law k n Φ 1572 [some (.ref (KB + 1)), some (.ref 0), some (.ref 92), some (.ref 108), some (.ref 109), some (iv i), none, none, none, none] [] (mem σ l) := by
  have hpl := hJ.1
  obtain ⟨kc, b, L, RC, k2, n2, hkc, hQ, hG, hk2, hn2, hF, hM⟩ := st_moved (g := g) hJ (rI (gX g (i + 1).toNat))
  have hQ1 := hQ.1
  have hQ2 := hQ.2
  have hG1 := hG.1
  have hG2 := hG.2
  refine g_aload1 dL_law_1572 ?_
  refine g_aload0 dL_law_1573 ?_
  refine g_iload5 dL_law_1574 ?_
  refine g_iconst dL_law_1576 ?_
  refine g_iadd dL_law_1577 ?_
  refine g_sld ⟨by omega, by omega⟩ (by omega) dL_law_1578 ?_
  rw [sX9]
  refine g_aload3 dL_law_1579 ?_
  refine f_cS3H hF oYX_L_moved oT_L_moved (tt5 77 rfl rfl) rfl dL_law_1580 (by omega) (by omega) rfl (okFb_of rfl) (fun σ1 l1 h1 => ?_)
  obtain ⟨hL1, hm⟩ := hM σ1 l1 h1
  have e9 := pcL_eq hL1
  refine g_istore6 dL_law_1583 rfl (by decide) ?_
  refine g_aload2 dL_law_1585 ?_
  refine g_aload0 dL_law_1586 ?_
  refine g_iload5 dL_law_1587 ?_
  refine g_iconst dL_law_1589 ?_
  refine g_iadd dL_law_1590 ?_
  refine g_sld ⟨by omega, by omega⟩ (by omega) dL_law_1591 ?_
  rw [sX9]
  refine f_cV1q (hm) rfl (by decide) rfl oY_X6_moved oI_X6_moved lk_L_240 rfl dL_law_1592 (by omega) (by omega) rfl (Or.inl rfl) (fun σ1592 l1592 h1592 => ?_)
  obtain ⟨el, ht, hv, hJ2⟩ := h1592
  subst el
  refine g_istore7 dL_law_1595 rfl (by decide) ?_
  refine g_aload2 dL_law_1597 ?_
  refine f_cV0w (thrown_m ht) rfl (by decide) rfl oY_X6_thrown oI_X6_thrown lk_L_159 rfl dL_law_1598 rfl (Or.inl rfl) ?_
  refine g_iload6 dL_law_1601 ?_
  refine g_icmp_eqS (tgt := 1608) dL_law_1603 rfl ?_
  refine g_iload6 dL_law_1608 ?_
  refine g_if_ne ⟨by omega, by omega⟩ (tgt := 1625) dL_law_1610 rfl (fun h1610 => ?_) (fun h1610 => ?_)
  · refine g_goto (tgt := 2895) dL_law_1625 rfl ?_
    refine g_forget 6 (g_forget 7 ?_)
    exact next _ _ _ _ hJ2 (by omega) (by omega)
  · refine g_aload3 dL_law_1613 ?_
    refine g_iconst dL_law_1614 ?_
    refine f_lald rfl (by decide) ⟨by omega, by show _ < ((1 : Nat) : Int); omega⟩ dL_law_1615 ?_
    rw [hv (by omega)]
    refine g_iload7 dL_law_1616 ?_
    refine g_i2l hQ dL_law_1618 ?_
    refine g_lcmp ⟨by omega, by omega⟩ ⟨by omega, by omega⟩ dL_law_1619 ?_
    refine g_if_eq_sg (tgt := 1625) dL_law_1620 rfl (fun h1620 => ?_) (fun h1620 => absurd h1620 (fun z => z rfl))
    refine g_goto (tgt := 2895) dL_law_1625 rfl ?_
    refine g_forget 6 (g_forget 7 ?_)
    exact next _ _ _ _ hJ2 (by omega) (by omega)
theorem lw_29 {c : Nat} {i : Int} {k n : Nat} (hi : 0 ≤ i ∧ i ≤ 2048) (hN : i + 4 ≤ (gN g : Int)) (hc : c < 512) (hJ : Jv (cB c) σ l) (hk : pcL l + (512 - c) ≤ k) (hn : psL l + 6 * (512 - c) ≤ n) (next : ∀ (τ : sT) (l' : Nat → Nat) (k n : Nat), Jv (cB (c + 1)) τ l' → pcL l' + (511 - c) ≤ k → psL l' + 6 * (511 - c) ≤ n → GW g zL_law k n Φ 2895 [some (.ref (KB + 1)), some (.ref 0), some (.ref 92), some (.ref 108), some (.ref 109), some (iv i), none, none, none, none] [] (mem τ l')) : GW g zL_law k n Φ 1628 [some (.ref (KB + 1)), some (.ref 0), some (.ref 92), some (.ref 108), some (.ref 109), some (iv i), none, none, none, none] [] (mem σ l) := by
  obtain ⟨L, RC, k2, n2, hG, hk2, hn2, hF, hM⟩ := s2_idle (g := g) hJ
  have hG1 := hG.1
  have hG2 := hG.2
  refine g_aload1 dL_law_1628 ?_
  refine f_cV0q (hF) rfl (by decide) rfl oY_X5_idle oI_X5_idle lk_L_241 rfl dL_law_1629 (by omega) (by omega) rfl (okFb_of rfl) (fun σ1629 l1629 h1629 => ?_)
  obtain ⟨hL1, hm⟩ := hM σ1629 l1629 h1629
  have e9 := pcL_eq hL1
  refine g_aload2 dL_law_1632 ?_
  refine f_cV0q (hm) rfl (by decide) rfl oY_X6_idle oI_X6_idle lk_L_244 rfl dL_law_1633 (by omega) (by omega) rfl (Or.inl rfl) (fun σ1633 l1633 h1633 => ?_)
  obtain ⟨el, hJ2⟩ := h1633
  subst el
  refine g_icmp_eqS (tgt := 2895) dL_law_1636 rfl ?_
  exact next _ _ _ _ hJ2 (by omega) (by omega)
theorem lw_30 {c : Nat} {i : Int} {k n : Nat} (hi : 0 ≤ i ∧ i ≤ 2048) (hN : i + 4 ≤ (gN g : Int)) (hc : c < 512) (hJ : Jv (cB c) σ l) (hk : pcL l + (512 - c) ≤ k) (hn : psL l + 6 * (512 - c) ≤ n) (next : ∀ (τ : sT) (l' : Nat → Nat) (k n : Nat), Jv (cB (c + 1)) τ l' → pcL l' + (511 - c) ≤ k → psL l' + 6 * (511 - c) ≤ n → GW g zL_law k n Φ 2895 [some (.ref (KB + 1)), some (.ref 0), some (.ref 92), some (.ref 108), some (.ref 109), some (iv i), none, none, none, none] [] (mem τ l')) : GW g zL_law k n Φ 1641 [some (.ref (KB + 1)), some (.ref 0), some (.ref 92), some (.ref 108), some (.ref 109), some (iv i), none, none, none, none] [] (mem σ l) := by
  have hpl := hJ.1
  obtain ⟨kc, b, L, RC, k2, n2, hkc, hQ, hG, hk2, hn2, hF, hM⟩ := st_costBy (g := g) hJ (rI (gX g (i + 1).toNat))
  have hQ1 := hQ.1
  have hQ2 := hQ.2
  have hG1 := hG.1
  have hG2 := hG.2
  refine g_aload1 dL_law_1641 ?_
  refine g_aload0 dL_law_1642 ?_
  refine g_iload5 dL_law_1643 ?_
  refine g_iconst dL_law_1645 ?_
  refine g_iadd dL_law_1646 ?_
  refine g_sld ⟨by omega, by omega⟩ (by omega) dL_law_1647 ?_
  rw [sX9]
  refine g_aload3 dL_law_1648 ?_
  refine f_cS3H hF oYX_L_costBy oT_L_costBy (tt5 84 rfl rfl) rfl dL_law_1649 (by omega) (by omega) rfl (okFb_of rfl) (fun σ1 l1 h1 => ?_)
  obtain ⟨hL1, hm⟩ := hM σ1 l1 h1
  have e9 := pcL_eq hL1
  refine g_istore6 dL_law_1652 rfl (by decide) ?_
  refine g_aload2 dL_law_1654 ?_
  refine g_aload0 dL_law_1655 ?_
  refine g_iload5 dL_law_1656 ?_
  refine g_iconst dL_law_1658 ?_
  refine g_iadd dL_law_1659 ?_
  refine g_sld ⟨by omega, by omega⟩ (by omega) dL_law_1660 ?_
  rw [sX9]
  refine f_cV1q (hm) rfl (by decide) rfl oY_X6_costBy oI_X6_costBy lk_L_247 rfl dL_law_1661 (by omega) (by omega) rfl (Or.inl rfl) (fun σ1661 l1661 h1661 => ?_)
  obtain ⟨el, ht, hv, hJ2⟩ := h1661
  subst el
  refine g_istore7 dL_law_1664 rfl (by decide) ?_
  refine g_aload2 dL_law_1666 ?_
  refine f_cV0w (thrown_m ht) rfl (by decide) rfl oY_X6_thrown oI_X6_thrown lk_L_159 rfl dL_law_1667 rfl (Or.inl rfl) ?_
  refine g_iload6 dL_law_1670 ?_
  refine g_icmp_eqS (tgt := 1677) dL_law_1672 rfl ?_
  refine g_iload6 dL_law_1677 ?_
  refine g_if_ne ⟨by omega, by omega⟩ (tgt := 1694) dL_law_1679 rfl (fun h1679 => ?_) (fun h1679 => ?_)
  · refine g_goto (tgt := 2895) dL_law_1694 rfl ?_
    refine g_forget 6 (g_forget 7 ?_)
    exact next _ _ _ _ hJ2 (by omega) (by omega)
  · refine g_aload3 dL_law_1682 ?_
    refine g_iconst dL_law_1683 ?_
    refine f_lald rfl (by decide) ⟨by omega, by show _ < ((1 : Nat) : Int); omega⟩ dL_law_1684 ?_
    rw [hv (by omega)]
    refine g_iload7 dL_law_1685 ?_
    refine g_i2l hQ dL_law_1687 ?_
    refine g_lcmp ⟨by omega, by omega⟩ ⟨by omega, by omega⟩ dL_law_1688 ?_
    refine g_if_eq_sg (tgt := 1694) dL_law_1689 rfl (fun h1689 => ?_) (fun h1689 => absurd h1689 (fun z => z rfl))
    refine g_goto (tgt := 2895) dL_law_1694 rfl ?_
    refine g_forget 6 (g_forget 7 ?_)
    exact next _ _ _ _ hJ2 (by omega) (by omega)
theorem lw_31 {c : Nat} {i : Int} {k n : Nat} (hi : 0 ≤ i ∧ i ≤ 2048) (hN : i + 4 ≤ (gN g : Int)) (hc : c < 512) (hJ : Jv (cB c) σ l) (hk : pcL l + (512 - c) ≤ k) (hn : psL l + 6 * (512 - c) ≤ n) (next : ∀ (τ : sT) (l' : Nat → Nat) (k n : Nat), Jv (cB (c + 1)) τ l' → pcL l' + (511 - c) ≤ k → psL l' + 6 * (511 - c) ≤ n → GW g zL_law k n Φ 2895 [some (.ref (KB + 1)), some (.ref 0), some (.ref 92), some (.ref 108), some (.ref 109), some (iv i), none, none, none, none] [] (mem τ l')) : GW g zL_law k n Φ 1697 [some (.ref (KB + 1)), some (.ref 0), some (.ref 92), some (.ref 108), some (.ref 109), some (iv i), none, none, none, none] [] (mem σ l) := by
  obtain ⟨L, RC, k2, n2, hG, hk2, hn2, hF, hM⟩ := s2_bestBy (g := g) hJ
  have hG1 := hG.1
  have hG2 := hG.2
  refine g_aload1 dL_law_1697 ?_
  refine f_cV0q (hF) rfl (by decide) rfl oY_X5_bestBy oI_X5_bestBy lk_L_248 rfl dL_law_1698 (by omega) (by omega) rfl (okFb_of rfl) (fun σ1698 l1698 h1698 => ?_)
  obtain ⟨hL1, hm⟩ := hM σ1698 l1698 h1698
  have e9 := pcL_eq hL1
  refine g_aload2 dL_law_1701 ?_
  refine f_cV0q (hm) rfl (by decide) rfl oY_X6_bestBy oI_X6_bestBy lk_L_251 rfl dL_law_1702 (by omega) (by omega) rfl (Or.inl rfl) (fun σ1702 l1702 h1702 => ?_)
  obtain ⟨el, hJ2⟩ := h1702
  subst el
  refine g_icmp_eqS (tgt := 2895) dL_law_1705 rfl ?_
  exact next _ _ _ _ hJ2 (by omega) (by omega)
theorem lw_32 {c : Nat} {i : Int} {k n : Nat} (hi : 0 ≤ i ∧ i ≤ 2048) (hN : i + 4 ≤ (gN g : Int)) (hc : c < 512) (hJ : Jv (cB c) σ l) (hk : pcL l + (512 - c) ≤ k) (hn : psL l + 6 * (512 - c) ≤ n) (next : ∀ (τ : sT) (l' : Nat → Nat) (k n : Nat), Jv (cB (c + 1)) τ l' → pcL l' + (511 - c) ≤ k → psL l' + 6 * (511 - c) ≤ n → GW g zL_law k n Φ 2895 [some (.ref (KB + 1)), some (.ref 0), some (.ref 92), some (.ref 108), some (.ref 109), some (iv i), none, none, none, none] [] (mem τ l')) : GW g zL_law k n Φ 1710 [some (.ref (KB + 1)), some (.ref 0), some (.ref 92), some (.ref 108), some (.ref 109), some (iv i), none, none, none, none] [] (mem σ l) := by
  have hpl := hJ.1
  obtain ⟨kc, b, L, RC, k2, n2, hkc, hQ, hG, hk2, hn2, hF, hM⟩ := st_costWith (g := g) hJ (rI (gX g (i + 1).toNat)) (rI (gX g (i + 2).toNat))
  have hQ1 := hQ.1
  have hQ2 := hQ.2
  have hG1 := hG.1
  have hG2 := hG.2
  refine g_aload1 dL_law_1710 ?_
  refine g_aload0 dL_law_1711 ?_
  refine g_iload5 dL_law_1712 ?_
  refine g_iconst dL_law_1714 ?_
  refine g_iadd dL_law_1715 ?_
  refine g_sld ⟨by omega, by omega⟩ (by omega) dL_law_1716 ?_
  rw [sX9]
  refine g_aload0 dL_law_1717 ?_
  refine g_iload5 dL_law_1718 ?_
  refine g_iconst dL_law_1720 ?_
  refine g_iadd dL_law_1721 ?_
  refine g_sld ⟨by omega, by omega⟩ (by omega) dL_law_1722 ?_
  rw [sX9]
  refine g_aload3 dL_law_1723 ?_
  refine f_cS4H hF oYX_L_costWith oT_L_costWith (tt5 91 rfl rfl) rfl dL_law_1724 (by omega) (by omega) rfl (okFb_of rfl) (fun σ1 l1 h1 => ?_)
  obtain ⟨hL1, hm⟩ := hM σ1 l1 h1
  have e9 := pcL_eq hL1
  refine g_istore6 dL_law_1727 rfl (by decide) ?_
  refine g_aload2 dL_law_1729 ?_
  refine g_aload0 dL_law_1730 ?_
  refine g_iload5 dL_law_1731 ?_
  refine g_iconst dL_law_1733 ?_
  refine g_iadd dL_law_1734 ?_
  refine g_sld ⟨by omega, by omega⟩ (by omega) dL_law_1735 ?_
  rw [sX9]
  refine g_aload0 dL_law_1736 ?_
  refine g_iload5 dL_law_1737 ?_
  refine g_iconst dL_law_1739 ?_
  refine g_iadd dL_law_1740 ?_
  refine g_sld ⟨by omega, by omega⟩ (by omega) dL_law_1741 ?_
  rw [sX9]
  refine f_cV2q (hm) rfl (by decide) rfl oY_X6_costWith oI_X6_costWith lk_L_254 rfl dL_law_1742 (by omega) (by omega) rfl (Or.inl rfl) (fun σ1742 l1742 h1742 => ?_)
  obtain ⟨el, ht, hv, hJ2⟩ := h1742
  subst el
  refine g_istore7 dL_law_1745 rfl (by decide) ?_
  refine g_aload2 dL_law_1747 ?_
  refine f_cV0w (thrown_m ht) rfl (by decide) rfl oY_X6_thrown oI_X6_thrown lk_L_159 rfl dL_law_1748 rfl (Or.inl rfl) ?_
  refine g_iload6 dL_law_1751 ?_
  refine g_icmp_eqS (tgt := 1758) dL_law_1753 rfl ?_
  refine g_iload6 dL_law_1758 ?_
  refine g_if_ne ⟨by omega, by omega⟩ (tgt := 1775) dL_law_1760 rfl (fun h1760 => ?_) (fun h1760 => ?_)
  · refine g_goto (tgt := 2895) dL_law_1775 rfl ?_
    refine g_forget 6 (g_forget 7 ?_)
    exact next _ _ _ _ hJ2 (by omega) (by omega)
  · refine g_aload3 dL_law_1763 ?_
    refine g_iconst dL_law_1764 ?_
    refine f_lald rfl (by decide) ⟨by omega, by show _ < ((1 : Nat) : Int); omega⟩ dL_law_1765 ?_
    rw [hv (by omega)]
    refine g_iload7 dL_law_1766 ?_
    refine g_i2l hQ dL_law_1768 ?_
    refine g_lcmp ⟨by omega, by omega⟩ ⟨by omega, by omega⟩ dL_law_1769 ?_
    refine g_if_eq_sg (tgt := 1775) dL_law_1770 rfl (fun h1770 => ?_) (fun h1770 => absurd h1770 (fun z => z rfl))
    refine g_goto (tgt := 2895) dL_law_1775 rfl ?_
    refine g_forget 6 (g_forget 7 ?_)
    exact next _ _ _ _ hJ2 (by omega) (by omega)
theorem lw_33 {c : Nat} {i : Int} {k n : Nat} (hi : 0 ≤ i ∧ i ≤ 2048) (hN : i + 4 ≤ (gN g : Int)) (hc : c < 512) (hJ : Jv (cB c) σ l) (hk : pcL l + (512 - c) ≤ k) (hn : psL l + 6 * (512 - c) ≤ n) (next : ∀ (τ : sT) (l' : Nat → Nat) (k n : Nat), Jv (cB (c + 1)) τ l' → pcL l' + (511 - c) ≤ k → psL l' + 6 * (511 - c) ≤ n → GW g zL_law k n Φ 2895 [some (.ref (KB + 1)), some (.ref 0), some (.ref 92), some (.ref 108), some (.ref 109), some (iv i), none, none, none, none] [] (mem τ l')) : GW g zL_law k n Φ 1778 [some (.ref (KB + 1)), some (.ref 0), some (.ref 92), some (.ref 108), some (.ref 109), some (iv i), none, none, none, none] [] (mem σ l) := by
  obtain ⟨L, RC, k2, n2, hG, hk2, hn2, hF, hM⟩ := s2_level (g := g) hJ
  have hG1 := hG.1
  have hG2 := hG.2
  refine g_aload1 dL_law_1778 ?_
  refine f_cV0q (hF) rfl (by decide) rfl oY_X5_level oI_X5_level lk_L_255 rfl dL_law_1779 (by omega) (by omega) rfl (okFb_of rfl) (fun σ1779 l1779 h1779 => ?_)
  obtain ⟨hL1, hm⟩ := hM σ1779 l1779 h1779
  have e9 := pcL_eq hL1
  refine g_aload2 dL_law_1782 ?_
  refine f_cV0q (hm) rfl (by decide) rfl oY_X6_level oI_X6_level lk_L_258 rfl dL_law_1783 (by omega) (by omega) rfl (Or.inl rfl) (fun σ1783 l1783 h1783 => ?_)
  obtain ⟨el, hJ2⟩ := h1783
  subst el
  refine g_icmp_eqS (tgt := 2895) dL_law_1786 rfl ?_
  exact next _ _ _ _ hJ2 (by omega) (by omega)
theorem lw_34 {c : Nat} {i : Int} {k n : Nat} (hi : 0 ≤ i ∧ i ≤ 2048) (hN : i + 4 ≤ (gN g : Int)) (hc : c < 512) (hJ : Jv (cB c) σ l) (hk : pcL l + (512 - c) ≤ k) (hn : psL l + 6 * (512 - c) ≤ n) (next : ∀ (τ : sT) (l' : Nat → Nat) (k n : Nat), Jv (cB (c + 1)) τ l' → pcL l' + (511 - c) ≤ k → psL l' + 6 * (511 - c) ≤ n → GW g zL_law k n Φ 2895 [some (.ref (KB + 1)), some (.ref 0), some (.ref 92), some (.ref 108), some (.ref 109), some (iv i), none, none, none, none] [] (mem τ l')) : GW g zL_law k n Φ 1791 [some (.ref (KB + 1)), some (.ref 0), some (.ref 92), some (.ref 108), some (.ref 109), some (iv i), none, none, none, none] [] (mem σ l) := by
  have hpl := hJ.1
  obtain ⟨kc, b, L, RC, k2, n2, hkc, hQ, hG, hk2, hn2, hF, hM⟩ := st_setHole (g := g) hJ (rI (gX g (i + 1).toNat)) (rI (gX g (i + 2).toNat)) (rI (gX g (i + 3).toNat))
  have hQ1 := hQ.1
  have hQ2 := hQ.2
  have hG1 := hG.1
  have hG2 := hG.2
  refine g_aload1 dL_law_1791 ?_
  refine g_aload0 dL_law_1792 ?_
  refine g_iload5 dL_law_1793 ?_
  refine g_iconst dL_law_1795 ?_
  refine g_iadd dL_law_1796 ?_
  refine g_sld ⟨by omega, by omega⟩ (by omega) dL_law_1797 ?_
  rw [sX9]
  refine g_aload0 dL_law_1798 ?_
  refine g_iload5 dL_law_1799 ?_
  refine g_iconst dL_law_1801 ?_
  refine g_iadd dL_law_1802 ?_
  refine g_sld ⟨by omega, by omega⟩ (by omega) dL_law_1803 ?_
  rw [sX9]
  refine g_aload0 dL_law_1804 ?_
  refine g_iload5 dL_law_1805 ?_
  refine g_iconst dL_law_1807 ?_
  refine g_iadd dL_law_1808 ?_
  refine g_sld ⟨by omega, by omega⟩ (by omega) dL_law_1809 ?_
  rw [sX9]
  refine g_aload3 dL_law_1810 ?_
  refine f_cS5H hF oYX_L_setHole oT_L_setHole (tt5 102 rfl rfl) rfl dL_law_1811 (by omega) (by omega) rfl (okFb_of rfl) (fun σ1 l1 h1 => ?_)
  obtain ⟨hL1, hm⟩ := hM σ1 l1 h1
  have e9 := pcL_eq hL1
  refine g_istore6 dL_law_1814 rfl (by decide) ?_
  refine g_aload2 dL_law_1816 ?_
  refine g_aload0 dL_law_1817 ?_
  refine g_iload5 dL_law_1818 ?_
  refine g_iconst dL_law_1820 ?_
  refine g_iadd dL_law_1821 ?_
  refine g_sld ⟨by omega, by omega⟩ (by omega) dL_law_1822 ?_
  rw [sX9]
  refine g_aload0 dL_law_1823 ?_
  refine g_iload5 dL_law_1824 ?_
  refine g_iconst dL_law_1826 ?_
  refine g_iadd dL_law_1827 ?_
  refine g_sld ⟨by omega, by omega⟩ (by omega) dL_law_1828 ?_
  rw [sX9]
  refine g_aload0 dL_law_1829 ?_
  refine g_iload5 dL_law_1830 ?_
  refine g_iconst dL_law_1832 ?_
  refine g_iadd dL_law_1833 ?_
  refine g_sld ⟨by omega, by omega⟩ (by omega) dL_law_1834 ?_
  rw [sX9]
  refine f_cV3q (hm) rfl (by decide) rfl oY_X6_setHole oI_X6_setHole lk_L_262 rfl dL_law_1835 (by omega) (by omega) rfl (Or.inl rfl) (fun σ1835 l1835 h1835 => ?_)
  obtain ⟨el, ht, hv, hJ2⟩ := h1835
  subst el
  refine g_istore7 dL_law_1838 rfl (by decide) ?_
  refine g_aload2 dL_law_1840 ?_
  refine f_cV0w (thrown_m ht) rfl (by decide) rfl oY_X6_thrown oI_X6_thrown lk_L_159 rfl dL_law_1841 rfl (Or.inl rfl) ?_
  refine g_iload6 dL_law_1844 ?_
  refine g_icmp_eqS (tgt := 1851) dL_law_1846 rfl ?_
  refine g_iload6 dL_law_1851 ?_
  refine g_if_ne ⟨by omega, by omega⟩ (tgt := 1868) dL_law_1853 rfl (fun h1853 => ?_) (fun h1853 => ?_)
  · refine g_goto (tgt := 2895) dL_law_1868 rfl ?_
    refine g_forget 6 (g_forget 7 ?_)
    exact next _ _ _ _ hJ2 (by omega) (by omega)
  · refine g_aload3 dL_law_1856 ?_
    refine g_iconst dL_law_1857 ?_
    refine f_lald rfl (by decide) ⟨by omega, by show _ < ((1 : Nat) : Int); omega⟩ dL_law_1858 ?_
    rw [hv (by omega)]
    refine g_iload7 dL_law_1859 ?_
    refine g_i2l hQ dL_law_1861 ?_
    refine g_lcmp ⟨by omega, by omega⟩ ⟨by omega, by omega⟩ dL_law_1862 ?_
    refine g_if_eq_sg (tgt := 1868) dL_law_1863 rfl (fun h1863 => ?_) (fun h1863 => absurd h1863 (fun z => z rfl))
    refine g_goto (tgt := 2895) dL_law_1868 rfl ?_
    refine g_forget 6 (g_forget 7 ?_)
    exact next _ _ _ _ hJ2 (by omega) (by omega)
theorem lw_35 {c : Nat} {i : Int} {k n : Nat} (hi : 0 ≤ i ∧ i ≤ 2048) (hN : i + 4 ≤ (gN g : Int)) (hc : c < 512) (hJ : Jv (cB c) σ l) (hk : pcL l + (512 - c) ≤ k) (hn : psL l + 6 * (512 - c) ≤ n) (next : ∀ (τ : sT) (l' : Nat → Nat) (k n : Nat), Jv (cB (c + 1)) τ l' → pcL l' + (511 - c) ≤ k → psL l' + 6 * (511 - c) ≤ n → GW g zL_law k n Φ 2895 [some (.ref (KB + 1)), some (.ref 0), some (.ref 92), some (.ref 108), some (.ref 109), some (iv i), none, none, none, none] [] (mem τ l')) : GW g zL_law k n Φ 1871 [some (.ref (KB + 1)), some (.ref 0), some (.ref 92), some (.ref 108), some (.ref 109), some (iv i), none, none, none, none] [] (mem σ l) := by
  have hpl := hJ.1
  obtain ⟨kc, b, L, RC, k2, n2, hkc, hQ, hG, hk2, hn2, hF, hM⟩ := st_setLimits (g := g) hJ (rI (gX g (i + 1).toNat)) (rI (gX g (i + 2).toNat))
  have hQ1 := hQ.1
  have hQ2 := hQ.2
  have hG1 := hG.1
  have hG2 := hG.2
  refine g_aload1 dL_law_1871 ?_
  refine g_aload0 dL_law_1872 ?_
  refine g_iload5 dL_law_1873 ?_
  refine g_iconst dL_law_1875 ?_
  refine g_iadd dL_law_1876 ?_
  refine g_sld ⟨by omega, by omega⟩ (by omega) dL_law_1877 ?_
  rw [sX9]
  refine g_aload0 dL_law_1878 ?_
  refine g_iload5 dL_law_1879 ?_
  refine g_iconst dL_law_1881 ?_
  refine g_iadd dL_law_1882 ?_
  refine g_sld ⟨by omega, by omega⟩ (by omega) dL_law_1883 ?_
  rw [sX9]
  refine g_aload3 dL_law_1884 ?_
  refine f_cS4H hF oYX_L_setLimits oT_L_setLimits (tt5 109 rfl rfl) rfl dL_law_1885 (by omega) (by omega) rfl (okFb_of rfl) (fun σ1 l1 h1 => ?_)
  obtain ⟨hL1, hm⟩ := hM σ1 l1 h1
  have e9 := pcL_eq hL1
  refine g_istore6 dL_law_1888 rfl (by decide) ?_
  refine g_aload2 dL_law_1890 ?_
  refine g_aload0 dL_law_1891 ?_
  refine g_iload5 dL_law_1892 ?_
  refine g_iconst dL_law_1894 ?_
  refine g_iadd dL_law_1895 ?_
  refine g_sld ⟨by omega, by omega⟩ (by omega) dL_law_1896 ?_
  rw [sX9]
  refine g_aload0 dL_law_1897 ?_
  refine g_iload5 dL_law_1898 ?_
  refine g_iconst dL_law_1900 ?_
  refine g_iadd dL_law_1901 ?_
  refine g_sld ⟨by omega, by omega⟩ (by omega) dL_law_1902 ?_
  rw [sX9]
  refine f_cV2q (hm) rfl (by decide) rfl oY_X6_setLimits oI_X6_setLimits lk_L_265 rfl dL_law_1903 (by omega) (by omega) rfl (Or.inl rfl) (fun σ1903 l1903 h1903 => ?_)
  obtain ⟨el, ht, hv, hJ2⟩ := h1903
  subst el
  refine g_istore7 dL_law_1906 rfl (by decide) ?_
  refine g_aload2 dL_law_1908 ?_
  refine f_cV0w (thrown_m ht) rfl (by decide) rfl oY_X6_thrown oI_X6_thrown lk_L_159 rfl dL_law_1909 rfl (Or.inl rfl) ?_
  refine g_iload6 dL_law_1912 ?_
  refine g_icmp_eqS (tgt := 1919) dL_law_1914 rfl ?_
  refine g_iload6 dL_law_1919 ?_
  refine g_if_ne ⟨by omega, by omega⟩ (tgt := 1936) dL_law_1921 rfl (fun h1921 => ?_) (fun h1921 => ?_)
  · refine g_goto (tgt := 2895) dL_law_1936 rfl ?_
    refine g_forget 6 (g_forget 7 ?_)
    exact next _ _ _ _ hJ2 (by omega) (by omega)
  · refine g_aload3 dL_law_1924 ?_
    refine g_iconst dL_law_1925 ?_
    refine f_lald rfl (by decide) ⟨by omega, by show _ < ((1 : Nat) : Int); omega⟩ dL_law_1926 ?_
    rw [hv (by omega)]
    refine g_iload7 dL_law_1927 ?_
    refine g_i2l hQ dL_law_1929 ?_
    refine g_lcmp ⟨by omega, by omega⟩ ⟨by omega, by omega⟩ dL_law_1930 ?_
    refine g_if_eq_sg (tgt := 1936) dL_law_1931 rfl (fun h1931 => ?_) (fun h1931 => absurd h1931 (fun z => z rfl))
    refine g_goto (tgt := 2895) dL_law_1936 rfl ?_
    refine g_forget 6 (g_forget 7 ?_)
    exact next _ _ _ _ hJ2 (by omega) (by omega)
theorem lw_36 {c : Nat} {i : Int} {k n : Nat} (hi : 0 ≤ i ∧ i ≤ 2048) (hN : i + 4 ≤ (gN g : Int)) (hc : c < 512) (hJ : Jv (cB c) σ l) (hk : pcL l + (512 - c) ≤ k) (hn : psL l + 6 * (512 - c) ≤ n) (next : ∀ (τ : sT) (l' : Nat → Nat) (k n : Nat), Jv (cB (c + 1)) τ l' → pcL l' + (511 - c) ≤ k → psL l' + 6 * (511 - c) ≤ n → GW g zL_law k n Φ 2895 [some (.ref (KB + 1)), some (.ref 0), some (.ref 92), some (.ref 108), some (.ref 109), some (iv i), none, none, none, none] [] (mem τ l')) : GW g zL_law k n Φ 1939 [some (.ref (KB + 1)), some (.ref 0), some (.ref 92), some (.ref 108), some (.ref 109), some (iv i), none, none, none, none] [] (mem σ l) := by
  have hpl := hJ.1
  obtain ⟨kc, b, L, RC, k2, n2, hkc, hQ, hG, hk2, hn2, hF, hM⟩ := st_setTolerance (g := g) hJ (rI (gX g (i + 1).toNat))
  have hQ1 := hQ.1
  have hQ2 := hQ.2
  have hG1 := hG.1
  have hG2 := hG.2
  refine g_aload1 dL_law_1939 ?_
  refine g_aload0 dL_law_1940 ?_
  refine g_iload5 dL_law_1941 ?_
  refine g_iconst dL_law_1943 ?_
  refine g_iadd dL_law_1944 ?_
  refine g_sld ⟨by omega, by omega⟩ (by omega) dL_law_1945 ?_
  rw [sX9]
  refine g_aload3 dL_law_1946 ?_
  refine f_cS3H hF oYX_L_setTolerance oT_L_setTolerance (tt5 116 rfl rfl) rfl dL_law_1947 (by omega) (by omega) rfl (okFb_of rfl) (fun σ1 l1 h1 => ?_)
  obtain ⟨hL1, hm⟩ := hM σ1 l1 h1
  have e9 := pcL_eq hL1
  refine g_istore6 dL_law_1950 rfl (by decide) ?_
  refine g_aload2 dL_law_1952 ?_
  refine g_aload0 dL_law_1953 ?_
  refine g_iload5 dL_law_1954 ?_
  refine g_iconst dL_law_1956 ?_
  refine g_iadd dL_law_1957 ?_
  refine g_sld ⟨by omega, by omega⟩ (by omega) dL_law_1958 ?_
  rw [sX9]
  refine f_cV1q (hm) rfl (by decide) rfl oY_X6_setTolerance oI_X6_setTolerance lk_L_268 rfl dL_law_1959 (by omega) (by omega) rfl (Or.inl rfl) (fun σ1959 l1959 h1959 => ?_)
  obtain ⟨el, ht, hv, hJ2⟩ := h1959
  subst el
  refine g_istore7 dL_law_1962 rfl (by decide) ?_
  refine g_aload2 dL_law_1964 ?_
  refine f_cV0w (thrown_m ht) rfl (by decide) rfl oY_X6_thrown oI_X6_thrown lk_L_159 rfl dL_law_1965 rfl (Or.inl rfl) ?_
  refine g_iload6 dL_law_1968 ?_
  refine g_icmp_eqS (tgt := 1975) dL_law_1970 rfl ?_
  refine g_iload6 dL_law_1975 ?_
  refine g_if_ne ⟨by omega, by omega⟩ (tgt := 1992) dL_law_1977 rfl (fun h1977 => ?_) (fun h1977 => ?_)
  · refine g_goto (tgt := 2895) dL_law_1992 rfl ?_
    refine g_forget 6 (g_forget 7 ?_)
    exact next _ _ _ _ hJ2 (by omega) (by omega)
  · refine g_aload3 dL_law_1980 ?_
    refine g_iconst dL_law_1981 ?_
    refine f_lald rfl (by decide) ⟨by omega, by show _ < ((1 : Nat) : Int); omega⟩ dL_law_1982 ?_
    rw [hv (by omega)]
    refine g_iload7 dL_law_1983 ?_
    refine g_i2l hQ dL_law_1985 ?_
    refine g_lcmp ⟨by omega, by omega⟩ ⟨by omega, by omega⟩ dL_law_1986 ?_
    refine g_if_eq_sg (tgt := 1992) dL_law_1987 rfl (fun h1987 => ?_) (fun h1987 => absurd h1987 (fun z => z rfl))
    refine g_goto (tgt := 2895) dL_law_1992 rfl ?_
    refine g_forget 6 (g_forget 7 ?_)
    exact next _ _ _ _ hJ2 (by omega) (by omega)
theorem lw_37 {c : Nat} {i : Int} {k n : Nat} (hi : 0 ≤ i ∧ i ≤ 2048) (hN : i + 4 ≤ (gN g : Int)) (hc : c < 512) (hJ : Jv (cB c) σ l) (hk : pcL l + (512 - c) ≤ k) (hn : psL l + 6 * (512 - c) ≤ n) (next : ∀ (τ : sT) (l' : Nat → Nat) (k n : Nat), Jv (cB (c + 1)) τ l' → pcL l' + (511 - c) ≤ k → psL l' + 6 * (511 - c) ≤ n → GW g zL_law k n Φ 2895 [some (.ref (KB + 1)), some (.ref 0), some (.ref 92), some (.ref 108), some (.ref 109), some (iv i), none, none, none, none] [] (mem τ l')) : GW g zL_law k n Φ 1995 [some (.ref (KB + 1)), some (.ref 0), some (.ref 92), some (.ref 108), some (.ref 109), some (iv i), none, none, none, none] [] (mem σ l) := by
  have hpl := hJ.1
  obtain ⟨kc, b, L, RC, k2, n2, hkc, hQ, hG, hk2, hn2, hF, hM⟩ := st_setCosts (g := g) hJ (rI (gX g (i + 1).toNat)) (rI (gX g (i + 2).toNat)) (rI (gX g (i + 3).toNat))
  have hQ1 := hQ.1
  have hQ2 := hQ.2
  have hG1 := hG.1
  have hG2 := hG.2
  refine g_aload1 dL_law_1995 ?_
  refine g_aload0 dL_law_1996 ?_
  refine g_iload5 dL_law_1997 ?_
  refine g_iconst dL_law_1999 ?_
  refine g_iadd dL_law_2000 ?_
  refine g_sld ⟨by omega, by omega⟩ (by omega) dL_law_2001 ?_
  rw [sX9]
  refine g_aload0 dL_law_2002 ?_
  refine g_iload5 dL_law_2003 ?_
  refine g_iconst dL_law_2005 ?_
  refine g_iadd dL_law_2006 ?_
  refine g_sld ⟨by omega, by omega⟩ (by omega) dL_law_2007 ?_
  rw [sX9]
  refine g_aload0 dL_law_2008 ?_
  refine g_iload5 dL_law_2009 ?_
  refine g_iconst dL_law_2011 ?_
  refine g_iadd dL_law_2012 ?_
  refine g_sld ⟨by omega, by omega⟩ (by omega) dL_law_2013 ?_
  rw [sX9]
  refine g_aload3 dL_law_2014 ?_
  refine f_cS5H hF oYX_L_setCosts oT_L_setCosts (tt5 123 rfl rfl) rfl dL_law_2015 (by omega) (by omega) rfl (okFb_of rfl) (fun σ1 l1 h1 => ?_)
  obtain ⟨hL1, hm⟩ := hM σ1 l1 h1
  have e9 := pcL_eq hL1
  refine g_istore6 dL_law_2018 rfl (by decide) ?_
  refine g_aload2 dL_law_2020 ?_
  refine g_aload0 dL_law_2021 ?_
  refine g_iload5 dL_law_2022 ?_
  refine g_iconst dL_law_2024 ?_
  refine g_iadd dL_law_2025 ?_
  refine g_sld ⟨by omega, by omega⟩ (by omega) dL_law_2026 ?_
  rw [sX9]
  refine g_aload0 dL_law_2027 ?_
  refine g_iload5 dL_law_2028 ?_
  refine g_iconst dL_law_2030 ?_
  refine g_iadd dL_law_2031 ?_
  refine g_sld ⟨by omega, by omega⟩ (by omega) dL_law_2032 ?_
  rw [sX9]
  refine g_aload0 dL_law_2033 ?_
  refine g_iload5 dL_law_2034 ?_
  refine g_iconst dL_law_2036 ?_
  refine g_iadd dL_law_2037 ?_
  refine g_sld ⟨by omega, by omega⟩ (by omega) dL_law_2038 ?_
  rw [sX9]
  refine f_cV3q (hm) rfl (by decide) rfl oY_X6_setCosts oI_X6_setCosts lk_L_271 rfl dL_law_2039 (by omega) (by omega) rfl (Or.inl rfl) (fun σ2039 l2039 h2039 => ?_)
  obtain ⟨el, ht, hv, hJ2⟩ := h2039
  subst el
  refine g_istore7 dL_law_2042 rfl (by decide) ?_
  refine g_aload2 dL_law_2044 ?_
  refine f_cV0w (thrown_m ht) rfl (by decide) rfl oY_X6_thrown oI_X6_thrown lk_L_159 rfl dL_law_2045 rfl (Or.inl rfl) ?_
  refine g_iload6 dL_law_2048 ?_
  refine g_icmp_eqS (tgt := 2055) dL_law_2050 rfl ?_
  refine g_iload6 dL_law_2055 ?_
  refine g_if_ne ⟨by omega, by omega⟩ (tgt := 2072) dL_law_2057 rfl (fun h2057 => ?_) (fun h2057 => ?_)
  · refine g_goto (tgt := 2895) dL_law_2072 rfl ?_
    refine g_forget 6 (g_forget 7 ?_)
    exact next _ _ _ _ hJ2 (by omega) (by omega)
  · refine g_aload3 dL_law_2060 ?_
    refine g_iconst dL_law_2061 ?_
    refine f_lald rfl (by decide) ⟨by omega, by show _ < ((1 : Nat) : Int); omega⟩ dL_law_2062 ?_
    rw [hv (by omega)]
    refine g_iload7 dL_law_2063 ?_
    refine g_i2l hQ dL_law_2065 ?_
    refine g_lcmp ⟨by omega, by omega⟩ ⟨by omega, by omega⟩ dL_law_2066 ?_
    refine g_if_eq_sg (tgt := 2072) dL_law_2067 rfl (fun h2067 => ?_) (fun h2067 => absurd h2067 (fun z => z rfl))
    refine g_goto (tgt := 2895) dL_law_2072 rfl ?_
    refine g_forget 6 (g_forget 7 ?_)
    exact next _ _ _ _ hJ2 (by omega) (by omega)
theorem lw_38 {c : Nat} {i : Int} {k n : Nat} (hi : 0 ≤ i ∧ i ≤ 2048) (hN : i + 4 ≤ (gN g : Int)) (hc : c < 512) (hJ : Jv (cB c) σ l) (hk : pcL l + (512 - c) ≤ k) (hn : psL l + 6 * (512 - c) ≤ n) (next : ∀ (τ : sT) (l' : Nat → Nat) (k n : Nat), Jv (cB (c + 1)) τ l' → pcL l' + (511 - c) ≤ k → psL l' + 6 * (511 - c) ≤ n → GW g zL_law k n Φ 2895 [some (.ref (KB + 1)), some (.ref 0), some (.ref 92), some (.ref 108), some (.ref 109), some (iv i), none, none, none, none] [] (mem τ l')) : GW g zL_law k n Φ 2075 [some (.ref (KB + 1)), some (.ref 0), some (.ref 92), some (.ref 108), some (.ref 109), some (iv i), none, none, none, none] [] (mem σ l) := by
  have hpl := hJ.1
  obtain ⟨kc, b, L, RC, k2, n2, hkc, hQ, hG, hk2, hn2, hF, hM⟩ := st_addNote (g := g) hJ (rI (gX g (i + 1).toNat))
  have hQ1 := hQ.1
  have hQ2 := hQ.2
  have hG1 := hG.1
  have hG2 := hG.2
  refine g_aload1 dL_law_2075 ?_
  refine g_aload0 dL_law_2076 ?_
  refine g_iload5 dL_law_2077 ?_
  refine g_iconst dL_law_2079 ?_
  refine g_iadd dL_law_2080 ?_
  refine g_sld ⟨by omega, by omega⟩ (by omega) dL_law_2081 ?_
  rw [sX9]
  refine g_aload3 dL_law_2082 ?_
  refine f_cS3H hF oYX_L_addNote oT_L_addNote (tt5 130 rfl rfl) rfl dL_law_2083 (by omega) (by omega) rfl (okFb_of rfl) (fun σ1 l1 h1 => ?_)
  obtain ⟨hL1, hm⟩ := hM σ1 l1 h1
  have e9 := pcL_eq hL1
  refine g_istore6 dL_law_2086 rfl (by decide) ?_
  refine g_aload2 dL_law_2088 ?_
  refine g_aload0 dL_law_2089 ?_
  refine g_iload5 dL_law_2090 ?_
  refine g_iconst dL_law_2092 ?_
  refine g_iadd dL_law_2093 ?_
  refine g_sld ⟨by omega, by omega⟩ (by omega) dL_law_2094 ?_
  rw [sX9]
  refine f_cV1q (hm) rfl (by decide) rfl oY_X6_addNote oI_X6_addNote lk_L_274 rfl dL_law_2095 (by omega) (by omega) rfl (Or.inl rfl) (fun σ2095 l2095 h2095 => ?_)
  obtain ⟨el, ht, hv, hJ2⟩ := h2095
  subst el
  refine g_istore7 dL_law_2098 rfl (by decide) ?_
  refine g_aload2 dL_law_2100 ?_
  refine f_cV0w (thrown_m ht) rfl (by decide) rfl oY_X6_thrown oI_X6_thrown lk_L_159 rfl dL_law_2101 rfl (Or.inl rfl) ?_
  refine g_iload6 dL_law_2104 ?_
  refine g_icmp_eqS (tgt := 2111) dL_law_2106 rfl ?_
  refine g_iload6 dL_law_2111 ?_
  refine g_if_ne ⟨by omega, by omega⟩ (tgt := 2128) dL_law_2113 rfl (fun h2113 => ?_) (fun h2113 => ?_)
  · refine g_goto (tgt := 2895) dL_law_2128 rfl ?_
    refine g_forget 6 (g_forget 7 ?_)
    exact next _ _ _ _ hJ2 (by omega) (by omega)
  · refine g_aload3 dL_law_2116 ?_
    refine g_iconst dL_law_2117 ?_
    refine f_lald rfl (by decide) ⟨by omega, by show _ < ((1 : Nat) : Int); omega⟩ dL_law_2118 ?_
    rw [hv (by omega)]
    refine g_iload7 dL_law_2119 ?_
    refine g_i2l hQ dL_law_2121 ?_
    refine g_lcmp ⟨by omega, by omega⟩ ⟨by omega, by omega⟩ dL_law_2122 ?_
    refine g_if_eq_sg (tgt := 2128) dL_law_2123 rfl (fun h2123 => ?_) (fun h2123 => absurd h2123 (fun z => z rfl))
    refine g_goto (tgt := 2895) dL_law_2128 rfl ?_
    refine g_forget 6 (g_forget 7 ?_)
    exact next _ _ _ _ hJ2 (by omega) (by omega)
theorem lw_39 {c : Nat} {i : Int} {k n : Nat} (hi : 0 ≤ i ∧ i ≤ 2048) (hN : i + 4 ≤ (gN g : Int)) (hc : c < 512) (hJ : Jv (cB c) σ l) (hk : pcL l + (512 - c) ≤ k) (hn : psL l + 6 * (512 - c) ≤ n) (next : ∀ (τ : sT) (l' : Nat → Nat) (k n : Nat), Jv (cB (c + 1)) τ l' → pcL l' + (511 - c) ≤ k → psL l' + 6 * (511 - c) ≤ n → GW g zL_law k n Φ 2895 [some (.ref (KB + 1)), some (.ref 0), some (.ref 92), some (.ref 108), some (.ref 109), some (iv i), none, none, none, none] [] (mem τ l')) : GW g zL_law k n Φ 2131 [some (.ref (KB + 1)), some (.ref 0), some (.ref 92), some (.ref 108), some (.ref 109), some (iv i), none, none, none, none] [] (mem σ l) := by
  have hpl := hJ.1
  obtain ⟨kc, b, L, RC, k2, n2, hkc, hQ, hG, hk2, hn2, hF, hM⟩ := st_setNote (g := g) hJ (rI (gX g (i + 1).toNat)) (rI (gX g (i + 2).toNat))
  have hQ1 := hQ.1
  have hQ2 := hQ.2
  have hG1 := hG.1
  have hG2 := hG.2
  refine g_aload1 dL_law_2131 ?_
  refine g_aload0 dL_law_2132 ?_
  refine g_iload5 dL_law_2133 ?_
  refine g_iconst dL_law_2135 ?_
  refine g_iadd dL_law_2136 ?_
  refine g_sld ⟨by omega, by omega⟩ (by omega) dL_law_2137 ?_
  rw [sX9]
  refine g_aload0 dL_law_2138 ?_
  refine g_iload5 dL_law_2139 ?_
  refine g_iconst dL_law_2141 ?_
  refine g_iadd dL_law_2142 ?_
  refine g_sld ⟨by omega, by omega⟩ (by omega) dL_law_2143 ?_
  rw [sX9]
  refine g_aload3 dL_law_2144 ?_
  refine f_cS4H hF oYX_L_setNote oT_L_setNote (tt5 137 rfl rfl) rfl dL_law_2145 (by omega) (by omega) rfl (okFb_of rfl) (fun σ1 l1 h1 => ?_)
  obtain ⟨hL1, hm⟩ := hM σ1 l1 h1
  have e9 := pcL_eq hL1
  refine g_istore6 dL_law_2148 rfl (by decide) ?_
  refine g_aload2 dL_law_2150 ?_
  refine g_aload0 dL_law_2151 ?_
  refine g_iload5 dL_law_2152 ?_
  refine g_iconst dL_law_2154 ?_
  refine g_iadd dL_law_2155 ?_
  refine g_sld ⟨by omega, by omega⟩ (by omega) dL_law_2156 ?_
  rw [sX9]
  refine g_aload0 dL_law_2157 ?_
  refine g_iload5 dL_law_2158 ?_
  refine g_iconst dL_law_2160 ?_
  refine g_iadd dL_law_2161 ?_
  refine g_sld ⟨by omega, by omega⟩ (by omega) dL_law_2162 ?_
  rw [sX9]
  refine f_cV2q (hm) rfl (by decide) rfl oY_X6_setNote oI_X6_setNote lk_L_277 rfl dL_law_2163 (by omega) (by omega) rfl (Or.inl rfl) (fun σ2163 l2163 h2163 => ?_)
  obtain ⟨el, ht, hv, hJ2⟩ := h2163
  subst el
  refine g_istore7 dL_law_2166 rfl (by decide) ?_
  refine g_aload2 dL_law_2168 ?_
  refine f_cV0w (thrown_m ht) rfl (by decide) rfl oY_X6_thrown oI_X6_thrown lk_L_159 rfl dL_law_2169 rfl (Or.inl rfl) ?_
  refine g_iload6 dL_law_2172 ?_
  refine g_icmp_eqS (tgt := 2179) dL_law_2174 rfl ?_
  refine g_iload6 dL_law_2179 ?_
  refine g_if_ne ⟨by omega, by omega⟩ (tgt := 2196) dL_law_2181 rfl (fun h2181 => ?_) (fun h2181 => ?_)
  · refine g_goto (tgt := 2895) dL_law_2196 rfl ?_
    refine g_forget 6 (g_forget 7 ?_)
    exact next _ _ _ _ hJ2 (by omega) (by omega)
  · refine g_aload3 dL_law_2184 ?_
    refine g_iconst dL_law_2185 ?_
    refine f_lald rfl (by decide) ⟨by omega, by show _ < ((1 : Nat) : Int); omega⟩ dL_law_2186 ?_
    rw [hv (by omega)]
    refine g_iload7 dL_law_2187 ?_
    refine g_i2l hQ dL_law_2189 ?_
    refine g_lcmp ⟨by omega, by omega⟩ ⟨by omega, by omega⟩ dL_law_2190 ?_
    refine g_if_eq_sg (tgt := 2196) dL_law_2191 rfl (fun h2191 => ?_) (fun h2191 => absurd h2191 (fun z => z rfl))
    refine g_goto (tgt := 2895) dL_law_2196 rfl ?_
    refine g_forget 6 (g_forget 7 ?_)
    exact next _ _ _ _ hJ2 (by omega) (by omega)
theorem lw_40 {c : Nat} {i : Int} {k n : Nat} (hi : 0 ≤ i ∧ i ≤ 2048) (hN : i + 4 ≤ (gN g : Int)) (hc : c < 512) (hJ : Jv (cB c) σ l) (hk : pcL l + (512 - c) ≤ k) (hn : psL l + 6 * (512 - c) ≤ n) (next : ∀ (τ : sT) (l' : Nat → Nat) (k n : Nat), Jv (cB (c + 1)) τ l' → pcL l' + (511 - c) ≤ k → psL l' + 6 * (511 - c) ≤ n → GW g zL_law k n Φ 2895 [some (.ref (KB + 1)), some (.ref 0), some (.ref 92), some (.ref 108), some (.ref 109), some (iv i), none, none, none, none] [] (mem τ l')) : GW g zL_law k n Φ 2199 [some (.ref (KB + 1)), some (.ref 0), some (.ref 92), some (.ref 108), some (.ref 109), some (iv i), none, none, none, none] [] (mem σ l) := by
  have hpl := hJ.1
  obtain ⟨kc, b, L, RC, k2, n2, hkc, hQ, hG, hk2, hn2, hF, hM⟩ := st_dropNote (g := g) hJ (rI (gX g (i + 1).toNat))
  have hQ1 := hQ.1
  have hQ2 := hQ.2
  have hG1 := hG.1
  have hG2 := hG.2
  refine g_aload1 dL_law_2199 ?_
  refine g_aload0 dL_law_2200 ?_
  refine g_iload5 dL_law_2201 ?_
  refine g_iconst dL_law_2203 ?_
  refine g_iadd dL_law_2204 ?_
  refine g_sld ⟨by omega, by omega⟩ (by omega) dL_law_2205 ?_
  rw [sX9]
  refine g_aload3 dL_law_2206 ?_
  refine f_cS3H hF oYX_L_dropNote oT_L_dropNote (tt5 144 rfl rfl) rfl dL_law_2207 (by omega) (by omega) rfl (okFb_of rfl) (fun σ1 l1 h1 => ?_)
  obtain ⟨hL1, hm⟩ := hM σ1 l1 h1
  have e9 := pcL_eq hL1
  refine g_istore6 dL_law_2210 rfl (by decide) ?_
  refine g_aload2 dL_law_2212 ?_
  refine g_aload0 dL_law_2213 ?_
  refine g_iload5 dL_law_2214 ?_
  refine g_iconst dL_law_2216 ?_
  refine g_iadd dL_law_2217 ?_
  refine g_sld ⟨by omega, by omega⟩ (by omega) dL_law_2218 ?_
  rw [sX9]
  refine f_cV1q (hm) rfl (by decide) rfl oY_X6_dropNote oI_X6_dropNote lk_L_280 rfl dL_law_2219 (by omega) (by omega) rfl (Or.inl rfl) (fun σ2219 l2219 h2219 => ?_)
  obtain ⟨el, ht, hv, hJ2⟩ := h2219
  subst el
  refine g_istore7 dL_law_2222 rfl (by decide) ?_
  refine g_aload2 dL_law_2224 ?_
  refine f_cV0w (thrown_m ht) rfl (by decide) rfl oY_X6_thrown oI_X6_thrown lk_L_159 rfl dL_law_2225 rfl (Or.inl rfl) ?_
  refine g_iload6 dL_law_2228 ?_
  refine g_icmp_eqS (tgt := 2235) dL_law_2230 rfl ?_
  refine g_iload6 dL_law_2235 ?_
  refine g_if_ne ⟨by omega, by omega⟩ (tgt := 2252) dL_law_2237 rfl (fun h2237 => ?_) (fun h2237 => ?_)
  · refine g_goto (tgt := 2895) dL_law_2252 rfl ?_
    refine g_forget 6 (g_forget 7 ?_)
    exact next _ _ _ _ hJ2 (by omega) (by omega)
  · refine g_aload3 dL_law_2240 ?_
    refine g_iconst dL_law_2241 ?_
    refine f_lald rfl (by decide) ⟨by omega, by show _ < ((1 : Nat) : Int); omega⟩ dL_law_2242 ?_
    rw [hv (by omega)]
    refine g_iload7 dL_law_2243 ?_
    refine g_i2l hQ dL_law_2245 ?_
    refine g_lcmp ⟨by omega, by omega⟩ ⟨by omega, by omega⟩ dL_law_2246 ?_
    refine g_if_eq_sg (tgt := 2252) dL_law_2247 rfl (fun h2247 => ?_) (fun h2247 => absurd h2247 (fun z => z rfl))
    refine g_goto (tgt := 2895) dL_law_2252 rfl ?_
    refine g_forget 6 (g_forget 7 ?_)
    exact next _ _ _ _ hJ2 (by omega) (by omega)
theorem lw_41 {c : Nat} {i : Int} {k n : Nat} (hi : 0 ≤ i ∧ i ≤ 2048) (hN : i + 4 ≤ (gN g : Int)) (hc : c < 512) (hJ : Jv (cB c) σ l) (hk : pcL l + (512 - c) ≤ k) (hn : psL l + 6 * (512 - c) ≤ n) (next : ∀ (τ : sT) (l' : Nat → Nat) (k n : Nat), Jv (cB (c + 1)) τ l' → pcL l' + (511 - c) ≤ k → psL l' + 6 * (511 - c) ≤ n → GW g zL_law k n Φ 2895 [some (.ref (KB + 1)), some (.ref 0), some (.ref 92), some (.ref 108), some (.ref 109), some (iv i), none, none, none, none] [] (mem τ l')) : GW g zL_law k n Φ 2255 [some (.ref (KB + 1)), some (.ref 0), some (.ref 92), some (.ref 108), some (.ref 109), some (iv i), none, none, none, none] [] (mem σ l) := by
  have hpl := hJ.1
  obtain ⟨kc, b, L, RC, k2, n2, hkc, hQ, hG, hk2, hn2, hF, hM⟩ := st_repeat (g := g) hJ (rI (gX g (i + 1).toNat)) (rI (gX g (i + 2).toNat))
  have hQ1 := hQ.1
  have hQ2 := hQ.2
  have hG1 := hG.1
  have hG2 := hG.2
  refine g_aload1 dL_law_2255 ?_
  refine g_aload0 dL_law_2256 ?_
  refine g_iload5 dL_law_2257 ?_
  refine g_iconst dL_law_2259 ?_
  refine g_iadd dL_law_2260 ?_
  refine g_sld ⟨by omega, by omega⟩ (by omega) dL_law_2261 ?_
  rw [sX9]
  refine g_aload0 dL_law_2262 ?_
  refine g_iload5 dL_law_2263 ?_
  refine g_iconst dL_law_2265 ?_
  refine g_iadd dL_law_2266 ?_
  refine g_sld ⟨by omega, by omega⟩ (by omega) dL_law_2267 ?_
  rw [sX9]
  refine g_aload3 dL_law_2268 ?_
  refine f_cS4H hF oYX_L_repeat oT_L_repeat (tt5 151 rfl rfl) rfl dL_law_2269 (by omega) (by omega) rfl (okFb_of rfl) (fun σ1 l1 h1 => ?_)
  obtain ⟨hL1, hm⟩ := hM σ1 l1 h1
  have e9 := pcL_eq hL1
  refine g_istore6 dL_law_2272 rfl (by decide) ?_
  refine g_aload2 dL_law_2274 ?_
  refine g_aload0 dL_law_2275 ?_
  refine g_iload5 dL_law_2276 ?_
  refine g_iconst dL_law_2278 ?_
  refine g_iadd dL_law_2279 ?_
  refine g_sld ⟨by omega, by omega⟩ (by omega) dL_law_2280 ?_
  rw [sX9]
  refine g_aload0 dL_law_2281 ?_
  refine g_iload5 dL_law_2282 ?_
  refine g_iconst dL_law_2284 ?_
  refine g_iadd dL_law_2285 ?_
  refine g_sld ⟨by omega, by omega⟩ (by omega) dL_law_2286 ?_
  rw [sX9]
  refine f_cV2q (hm) rfl (by decide) rfl oY_X6_repeat oI_X6_repeat lk_L_283 rfl dL_law_2287 (by omega) (by omega) rfl (Or.inl rfl) (fun σ2287 l2287 h2287 => ?_)
  obtain ⟨el, ht, hv, hJ2⟩ := h2287
  subst el
  refine g_istore7 dL_law_2290 rfl (by decide) ?_
  refine g_aload2 dL_law_2292 ?_
  refine f_cV0w (thrown_m ht) rfl (by decide) rfl oY_X6_thrown oI_X6_thrown lk_L_159 rfl dL_law_2293 rfl (Or.inl rfl) ?_
  refine g_iload6 dL_law_2296 ?_
  refine g_icmp_eqS (tgt := 2303) dL_law_2298 rfl ?_
  refine g_iload6 dL_law_2303 ?_
  refine g_if_ne ⟨by omega, by omega⟩ (tgt := 2320) dL_law_2305 rfl (fun h2305 => ?_) (fun h2305 => ?_)
  · refine g_goto (tgt := 2895) dL_law_2320 rfl ?_
    refine g_forget 6 (g_forget 7 ?_)
    exact next _ _ _ _ hJ2 (by omega) (by omega)
  · refine g_aload3 dL_law_2308 ?_
    refine g_iconst dL_law_2309 ?_
    refine f_lald rfl (by decide) ⟨by omega, by show _ < ((1 : Nat) : Int); omega⟩ dL_law_2310 ?_
    rw [hv (by omega)]
    refine g_iload7 dL_law_2311 ?_
    refine g_i2l hQ dL_law_2313 ?_
    refine g_lcmp ⟨by omega, by omega⟩ ⟨by omega, by omega⟩ dL_law_2314 ?_
    refine g_if_eq_sg (tgt := 2320) dL_law_2315 rfl (fun h2315 => ?_) (fun h2315 => absurd h2315 (fun z => z rfl))
    refine g_goto (tgt := 2895) dL_law_2320 rfl ?_
    refine g_forget 6 (g_forget 7 ?_)
    exact next _ _ _ _ hJ2 (by omega) (by omega)
theorem lw_42 {c : Nat} {i : Int} {k n : Nat} (hi : 0 ≤ i ∧ i ≤ 2048) (hN : i + 4 ≤ (gN g : Int)) (hc : c < 512) (hJ : Jv (cB c) σ l) (hk : pcL l + (512 - c) ≤ k) (hn : psL l + 6 * (512 - c) ≤ n) (next : ∀ (τ : sT) (l' : Nat → Nat) (k n : Nat), Jv (cB (c + 1)) τ l' → pcL l' + (511 - c) ≤ k → psL l' + 6 * (511 - c) ≤ n → GW g zL_law k n Φ 2895 [some (.ref (KB + 1)), some (.ref 0), some (.ref 92), some (.ref 108), some (.ref 109), some (iv i), none, none, none, none] [] (mem τ l')) : GW g zL_law k n Φ 2323 [some (.ref (KB + 1)), some (.ref 0), some (.ref 92), some (.ref 108), some (.ref 109), some (iv i), none, none, none, none] [] (mem σ l) := by
  have hpl := hJ.1
  obtain ⟨kc, b, L, RC, k2, n2, hkc, hQ, hG, hk2, hn2, hF, hM⟩ := st_higher (g := g) hJ (rI (gX g (i + 1).toNat))
  have hQ1 := hQ.1
  have hQ2 := hQ.2
  have hG1 := hG.1
  have hG2 := hG.2
  refine g_aload1 dL_law_2323 ?_
  refine g_aload0 dL_law_2324 ?_
  refine g_iload5 dL_law_2325 ?_
  refine g_iconst dL_law_2327 ?_
  refine g_iadd dL_law_2328 ?_
  refine g_sld ⟨by omega, by omega⟩ (by omega) dL_law_2329 ?_
  rw [sX9]
  refine g_aload3 dL_law_2330 ?_
  refine f_cS3H hF oYX_L_higher oT_L_higher (tt5 158 rfl rfl) rfl dL_law_2331 (by omega) (by omega) rfl (okFb_of rfl) (fun σ1 l1 h1 => ?_)
  obtain ⟨hL1, hm⟩ := hM σ1 l1 h1
  have e9 := pcL_eq hL1
  refine g_istore6 dL_law_2334 rfl (by decide) ?_
  refine g_aload2 dL_law_2336 ?_
  refine g_aload0 dL_law_2337 ?_
  refine g_iload5 dL_law_2338 ?_
  refine g_iconst dL_law_2340 ?_
  refine g_iadd dL_law_2341 ?_
  refine g_sld ⟨by omega, by omega⟩ (by omega) dL_law_2342 ?_
  rw [sX9]
  refine f_cV1q (hm) rfl (by decide) rfl oY_X6_higher oI_X6_higher lk_L_286 rfl dL_law_2343 (by omega) (by omega) rfl (Or.inl rfl) (fun σ2343 l2343 h2343 => ?_)
  obtain ⟨el, ht, hv, hJ2⟩ := h2343
  subst el
  refine g_istore7 dL_law_2346 rfl (by decide) ?_
  refine g_aload2 dL_law_2348 ?_
  refine f_cV0w (thrown_m ht) rfl (by decide) rfl oY_X6_thrown oI_X6_thrown lk_L_159 rfl dL_law_2349 rfl (Or.inl rfl) ?_
  refine g_iload6 dL_law_2352 ?_
  refine g_icmp_eqS (tgt := 2359) dL_law_2354 rfl ?_
  refine g_iload6 dL_law_2359 ?_
  refine g_if_ne ⟨by omega, by omega⟩ (tgt := 2376) dL_law_2361 rfl (fun h2361 => ?_) (fun h2361 => ?_)
  · refine g_goto (tgt := 2895) dL_law_2376 rfl ?_
    refine g_forget 6 (g_forget 7 ?_)
    exact next _ _ _ _ hJ2 (by omega) (by omega)
  · refine g_aload3 dL_law_2364 ?_
    refine g_iconst dL_law_2365 ?_
    refine f_lald rfl (by decide) ⟨by omega, by show _ < ((1 : Nat) : Int); omega⟩ dL_law_2366 ?_
    rw [hv (by omega)]
    refine g_iload7 dL_law_2367 ?_
    refine g_i2l hQ dL_law_2369 ?_
    refine g_lcmp ⟨by omega, by omega⟩ ⟨by omega, by omega⟩ dL_law_2370 ?_
    refine g_if_eq_sg (tgt := 2376) dL_law_2371 rfl (fun h2371 => ?_) (fun h2371 => absurd h2371 (fun z => z rfl))
    refine g_goto (tgt := 2895) dL_law_2376 rfl ?_
    refine g_forget 6 (g_forget 7 ?_)
    exact next _ _ _ _ hJ2 (by omega) (by omega)
theorem lw_43 {c : Nat} {i : Int} {k n : Nat} (hi : 0 ≤ i ∧ i ≤ 2048) (hN : i + 4 ≤ (gN g : Int)) (hc : c < 512) (hJ : Jv (cB c) σ l) (hk : pcL l + (512 - c) ≤ k) (hn : psL l + 6 * (512 - c) ≤ n) (next : ∀ (τ : sT) (l' : Nat → Nat) (k n : Nat), Jv (cB (c + 1)) τ l' → pcL l' + (511 - c) ≤ k → psL l' + 6 * (511 - c) ≤ n → GW g zL_law k n Φ 2895 [some (.ref (KB + 1)), some (.ref 0), some (.ref 92), some (.ref 108), some (.ref 109), some (iv i), none, none, none, none] [] (mem τ l')) : GW g zL_law k n Φ 2379 [some (.ref (KB + 1)), some (.ref 0), some (.ref 92), some (.ref 108), some (.ref 109), some (iv i), none, none, none, none] [] (mem σ l) := by
  have hpl := hJ.1
  obtain ⟨kc, b, L, RC, k2, n2, hkc, hQ, hG, hk2, hn2, hF, hM⟩ := st_cover (g := g) hJ (rI (gX g (i + 1).toNat)) (rI (gX g (i + 2).toNat))
  have hQ1 := hQ.1
  have hQ2 := hQ.2
  have hG1 := hG.1
  have hG2 := hG.2
  refine g_aload1 dL_law_2379 ?_
  refine g_aload0 dL_law_2380 ?_
  refine g_iload5 dL_law_2381 ?_
  refine g_iconst dL_law_2383 ?_
  refine g_iadd dL_law_2384 ?_
  refine g_sld ⟨by omega, by omega⟩ (by omega) dL_law_2385 ?_
  rw [sX9]
  refine g_aload0 dL_law_2386 ?_
  refine g_iload5 dL_law_2387 ?_
  refine g_iconst dL_law_2389 ?_
  refine g_iadd dL_law_2390 ?_
  refine g_sld ⟨by omega, by omega⟩ (by omega) dL_law_2391 ?_
  rw [sX9]
  refine g_aload3 dL_law_2392 ?_
  refine f_cS4H hF oYX_L_cover oT_L_cover (tt5 165 rfl rfl) rfl dL_law_2393 (by omega) (by omega) rfl (okFb_of rfl) (fun σ1 l1 h1 => ?_)
  obtain ⟨hL1, hm⟩ := hM σ1 l1 h1
  have e9 := pcL_eq hL1
  refine g_istore6 dL_law_2396 rfl (by decide) ?_
  refine g_aload2 dL_law_2398 ?_
  refine g_aload0 dL_law_2399 ?_
  refine g_iload5 dL_law_2400 ?_
  refine g_iconst dL_law_2402 ?_
  refine g_iadd dL_law_2403 ?_
  refine g_sld ⟨by omega, by omega⟩ (by omega) dL_law_2404 ?_
  rw [sX9]
  refine g_aload0 dL_law_2405 ?_
  refine g_iload5 dL_law_2406 ?_
  refine g_iconst dL_law_2408 ?_
  refine g_iadd dL_law_2409 ?_
  refine g_sld ⟨by omega, by omega⟩ (by omega) dL_law_2410 ?_
  rw [sX9]
  refine f_cV2q (hm) rfl (by decide) rfl oY_X6_cover oI_X6_cover lk_L_289 rfl dL_law_2411 (by omega) (by omega) rfl (Or.inl rfl) (fun σ2411 l2411 h2411 => ?_)
  obtain ⟨el, ht, hv, hJ2⟩ := h2411
  subst el
  refine g_istore7 dL_law_2414 rfl (by decide) ?_
  refine g_aload2 dL_law_2416 ?_
  refine f_cV0w (thrown_m ht) rfl (by decide) rfl oY_X6_thrown oI_X6_thrown lk_L_159 rfl dL_law_2417 rfl (Or.inl rfl) ?_
  refine g_iload6 dL_law_2420 ?_
  refine g_icmp_eqS (tgt := 2427) dL_law_2422 rfl ?_
  refine g_iload6 dL_law_2427 ?_
  refine g_if_ne ⟨by omega, by omega⟩ (tgt := 2444) dL_law_2429 rfl (fun h2429 => ?_) (fun h2429 => ?_)
  · refine g_goto (tgt := 2895) dL_law_2444 rfl ?_
    refine g_forget 6 (g_forget 7 ?_)
    exact next _ _ _ _ hJ2 (by omega) (by omega)
  · refine g_aload3 dL_law_2432 ?_
    refine g_iconst dL_law_2433 ?_
    refine f_lald rfl (by decide) ⟨by omega, by show _ < ((1 : Nat) : Int); omega⟩ dL_law_2434 ?_
    rw [hv (by omega)]
    refine g_iload7 dL_law_2435 ?_
    refine g_i2l hQ dL_law_2437 ?_
    refine g_lcmp ⟨by omega, by omega⟩ ⟨by omega, by omega⟩ dL_law_2438 ?_
    refine g_if_eq_sg (tgt := 2444) dL_law_2439 rfl (fun h2439 => ?_) (fun h2439 => absurd h2439 (fun z => z rfl))
    refine g_goto (tgt := 2895) dL_law_2444 rfl ?_
    refine g_forget 6 (g_forget 7 ?_)
    exact next _ _ _ _ hJ2 (by omega) (by omega)
theorem lw_44 {c : Nat} {i : Int} {k n : Nat} (hi : 0 ≤ i ∧ i ≤ 2048) (hN : i + 4 ≤ (gN g : Int)) (hc : c < 512) (hJ : Jv (cB c) σ l) (hk : pcL l + (512 - c) ≤ k) (hn : psL l + 6 * (512 - c) ≤ n) (next : ∀ (τ : sT) (l' : Nat → Nat) (k n : Nat), Jv (cB (c + 1)) τ l' → pcL l' + (511 - c) ≤ k → psL l' + 6 * (511 - c) ≤ n → GW g zL_law k n Φ 2895 [some (.ref (KB + 1)), some (.ref 0), some (.ref 92), some (.ref 108), some (.ref 109), some (iv i), none, none, none, none] [] (mem τ l')) : GW g zL_law k n Φ 2447 [some (.ref (KB + 1)), some (.ref 0), some (.ref 92), some (.ref 108), some (.ref 109), some (iv i), none, none, none, none] [] (mem σ l) := by
  obtain ⟨x, hx⟩ : ∃ x : Int, x = (gX g (i + 1).toNat).toInt := ⟨_, rfl⟩
  have hxR : R32 x := by rw [hx]; exact rI _
  by_cases c0 : x = 0
  · obtain ⟨L, RC, k2, n2, hG, hk2, hn2, hF, hM⟩ := s2_blow0 (g := g) hJ
    have hG1 := hG.1
    have hG2 := hG.2
    refine g_aload1 dL_law_2447 ?_
    refine g_aload0 dL_law_2448 ?_
    refine g_iload5 dL_law_2449 ?_
    refine g_iconst dL_law_2451 ?_
    refine g_iadd dL_law_2452 ?_
    refine g_sld ⟨by omega, by omega⟩ (by omega) dL_law_2453 ?_
    rw [sX9, ← hx]
    refine g_if_eq hxR (tgt := 2461) dL_law_2454 rfl (fun h2454 => ?_) (fun h2454 => absurd h2454 (fun z => z c0))
    refine g_iconst dL_law_2461 ?_
    refine f_cV1q (hF) rfl (by decide) rfl oY_X5_blow oI_X5_blow lk_L_290 rfl dL_law_2462 (by omega) (by omega) rfl (okFb_of rfl) (fun σ2462 l2462 h2462 => ?_)
    obtain ⟨hL1, hm⟩ := hM σ2462 l2462 h2462
    have e9 := pcL_eq hL1
    refine g_aload2 dL_law_2465 ?_
    refine g_aload0 dL_law_2466 ?_
    refine g_iload5 dL_law_2467 ?_
    refine g_iconst dL_law_2469 ?_
    refine g_iadd dL_law_2470 ?_
    refine g_sld ⟨by omega, by omega⟩ (by omega) dL_law_2471 ?_
    rw [sX9, ← hx]
    refine g_if_eq hxR (tgt := 2479) dL_law_2472 rfl (fun h2472 => ?_) (fun h2472 => absurd h2472 (fun z => z c0))
    refine g_iconst dL_law_2479 ?_
    refine f_cV1q (hm) rfl (by decide) rfl oY_X6_blow oI_X6_blow lk_L_294 rfl dL_law_2480 (by omega) (by omega) rfl (Or.inl rfl) (fun σ2480 l2480 h2480 => ?_)
    obtain ⟨el, hJ2⟩ := h2480
    subst el
    refine g_icmp_eqS (tgt := 2895) dL_law_2483 rfl ?_
    exact next _ _ _ _ hJ2 (by omega) (by omega)
  · obtain ⟨L, RC, k2, n2, hG, hk2, hn2, hF, hM⟩ := s2_blow1 (g := g) hJ
    have hG1 := hG.1
    have hG2 := hG.2
    refine g_aload1 dL_law_2447 ?_
    refine g_aload0 dL_law_2448 ?_
    refine g_iload5 dL_law_2449 ?_
    refine g_iconst dL_law_2451 ?_
    refine g_iadd dL_law_2452 ?_
    refine g_sld ⟨by omega, by omega⟩ (by omega) dL_law_2453 ?_
    rw [sX9, ← hx]
    refine g_if_eq hxR (tgt := 2461) dL_law_2454 rfl (fun h2454 => absurd h2454 c0) (fun h2454 => ?_)
    refine g_iconst dL_law_2457 ?_
    refine g_goto (tgt := 2462) dL_law_2458 rfl ?_
    refine f_cV1q (hF) rfl (by decide) rfl oY_X5_blow oI_X5_blow lk_L_290 rfl dL_law_2462 (by omega) (by omega) rfl (okFb_of rfl) (fun σ2462 l2462 h2462 => ?_)
    obtain ⟨hL1, hm⟩ := hM σ2462 l2462 h2462
    have e9 := pcL_eq hL1
    refine g_aload2 dL_law_2465 ?_
    refine g_aload0 dL_law_2466 ?_
    refine g_iload5 dL_law_2467 ?_
    refine g_iconst dL_law_2469 ?_
    refine g_iadd dL_law_2470 ?_
    refine g_sld ⟨by omega, by omega⟩ (by omega) dL_law_2471 ?_
    rw [sX9, ← hx]
    refine g_if_eq hxR (tgt := 2479) dL_law_2472 rfl (fun h2472 => absurd h2472 c0) (fun h2472 => ?_)
    refine g_iconst dL_law_2475 ?_
    refine g_goto (tgt := 2480) dL_law_2476 rfl ?_
    refine f_cV1q (hm) rfl (by decide) rfl oY_X6_blow oI_X6_blow lk_L_294 rfl dL_law_2480 (by omega) (by omega) rfl (Or.inl rfl) (fun σ2480 l2480 h2480 => ?_)
    obtain ⟨el, hJ2⟩ := h2480
    subst el
    refine g_icmp_eqS (tgt := 2895) dL_law_2483 rfl ?_
    exact next _ _ _ _ hJ2 (by omega) (by omega)
theorem lw_45 {c : Nat} {i : Int} {k n : Nat} (hi : 0 ≤ i ∧ i ≤ 2048) (hN : i + 4 ≤ (gN g : Int)) (hc : c < 512) (hJ : Jv (cB c) σ l) (hk : pcL l + (512 - c) ≤ k) (hn : psL l + 6 * (512 - c) ≤ n) (next : ∀ (τ : sT) (l' : Nat → Nat) (k n : Nat), Jv (cB (c + 1)) τ l' → pcL l' + (511 - c) ≤ k → psL l' + 6 * (511 - c) ≤ n → GW g zL_law k n Φ 2895 [some (.ref (KB + 1)), some (.ref 0), some (.ref 92), some (.ref 108), some (.ref 109), some (iv i), none, none, none, none] [] (mem τ l')) : GW g zL_law k n Φ 2488 [some (.ref (KB + 1)), some (.ref 0), some (.ref 92), some (.ref 108), some (.ref 109), some (iv i), none, none, none, none] [] (mem σ l) := by
  obtain ⟨V, L, RC, k2, n2, hG, hk2, hn2, hF, hM⟩ := s2_step (g := g) hJ
  have hG1 := hG.1
  have hG2 := hG.2
  refine g_aload1 dL_law_2488 ?_
  refine f_cV0q (hF) rfl (by decide) rfl oY_X5_step oI_X5_step lk_L_295 rfl dL_law_2489 (by omega) (by omega) rfl (okFb_of rfl) (fun σ2489 l2489 h2489 => ?_)
  obtain ⟨hL1, hm⟩ := hM σ2489 l2489 h2489
  have e9 := pcL_eq hL1
  refine g_aload2 dL_law_2492 ?_
  refine f_cV0q (hm) rfl (by decide) rfl oY_X6_step oI_X6_step lk_L_298 rfl dL_law_2493 (by omega) (by omega) rfl (Or.inl rfl) (fun σ2493 l2493 h2493 => ?_)
  obtain ⟨el, hJ2⟩ := h2493
  subst el
  refine g_icmp_eqS (tgt := 2895) dL_law_2496 rfl ?_
  exact next _ _ _ _ hJ2 (by omega) (by omega)
theorem lw_46 {c : Nat} {i : Int} {k n : Nat} (hi : 0 ≤ i ∧ i ≤ 2048) (hN : i + 4 ≤ (gN g : Int)) (hc : c < 512) (hJ : Jv (cB c) σ l) (hk : pcL l + (512 - c) ≤ k) (hn : psL l + 6 * (512 - c) ≤ n) (next : ∀ (τ : sT) (l' : Nat → Nat) (k n : Nat), Jv (cB (c + 1)) τ l' → pcL l' + (511 - c) ≤ k → psL l' + 6 * (511 - c) ≤ n → GW g zL_law k n Φ 2895 [some (.ref (KB + 1)), some (.ref 0), some (.ref 92), some (.ref 108), some (.ref 109), some (iv i), none, none, none, none] [] (mem τ l')) : GW g zL_law k n Φ 2501 [some (.ref (KB + 1)), some (.ref 0), some (.ref 92), some (.ref 108), some (.ref 109), some (iv i), none, none, none, none] [] (mem σ l) := by
  have hpl := hJ.1
  obtain ⟨kc, b, L, RC, k2, n2, hkc, hQ, hG, hk2, hn2, hF, hM⟩ := st_rewind (g := g) hJ (rI (gX g (i + 1).toNat))
  have hQ1 := hQ.1
  have hQ2 := hQ.2
  have hG1 := hG.1
  have hG2 := hG.2
  refine g_aload1 dL_law_2501 ?_
  refine g_aload0 dL_law_2502 ?_
  refine g_iload5 dL_law_2503 ?_
  refine g_iconst dL_law_2505 ?_
  refine g_iadd dL_law_2506 ?_
  refine g_sld ⟨by omega, by omega⟩ (by omega) dL_law_2507 ?_
  rw [sX9]
  refine g_aload3 dL_law_2508 ?_
  refine f_cS3H hF oYX_L_rewind oT_L_rewind (tt5 172 rfl rfl) rfl dL_law_2509 (by omega) (by omega) rfl (okFb_of rfl) (fun σ1 l1 h1 => ?_)
  obtain ⟨hL1, hm⟩ := hM σ1 l1 h1
  have e9 := pcL_eq hL1
  refine g_istore6 dL_law_2512 rfl (by decide) ?_
  refine g_aload2 dL_law_2514 ?_
  refine g_aload0 dL_law_2515 ?_
  refine g_iload5 dL_law_2516 ?_
  refine g_iconst dL_law_2518 ?_
  refine g_iadd dL_law_2519 ?_
  refine g_sld ⟨by omega, by omega⟩ (by omega) dL_law_2520 ?_
  rw [sX9]
  refine f_cV1q (hm) rfl (by decide) rfl oY_X6_rewind oI_X6_rewind lk_L_301 rfl dL_law_2521 (by omega) (by omega) rfl (Or.inl rfl) (fun σ2521 l2521 h2521 => ?_)
  obtain ⟨el, ht, hv, hJ2⟩ := h2521
  subst el
  refine g_istore7 dL_law_2524 rfl (by decide) ?_
  refine g_aload2 dL_law_2526 ?_
  refine f_cV0w (thrown_m ht) rfl (by decide) rfl oY_X6_thrown oI_X6_thrown lk_L_159 rfl dL_law_2527 rfl (Or.inl rfl) ?_
  refine g_iload6 dL_law_2530 ?_
  refine g_icmp_eqS (tgt := 2537) dL_law_2532 rfl ?_
  refine g_iload6 dL_law_2537 ?_
  refine g_if_ne ⟨by omega, by omega⟩ (tgt := 2554) dL_law_2539 rfl (fun h2539 => ?_) (fun h2539 => ?_)
  · refine g_goto (tgt := 2895) dL_law_2554 rfl ?_
    refine g_forget 6 (g_forget 7 ?_)
    exact next _ _ _ _ hJ2 (by omega) (by omega)
  · refine g_aload3 dL_law_2542 ?_
    refine g_iconst dL_law_2543 ?_
    refine f_lald rfl (by decide) ⟨by omega, by show _ < ((1 : Nat) : Int); omega⟩ dL_law_2544 ?_
    rw [hv (by omega)]
    refine g_iload7 dL_law_2545 ?_
    refine g_i2l hQ dL_law_2547 ?_
    refine g_lcmp ⟨by omega, by omega⟩ ⟨by omega, by omega⟩ dL_law_2548 ?_
    refine g_if_eq_sg (tgt := 2554) dL_law_2549 rfl (fun h2549 => ?_) (fun h2549 => absurd h2549 (fun z => z rfl))
    refine g_goto (tgt := 2895) dL_law_2554 rfl ?_
    refine g_forget 6 (g_forget 7 ?_)
    exact next _ _ _ _ hJ2 (by omega) (by omega)
theorem lw_47 {c : Nat} {i : Int} {k n : Nat} (hi : 0 ≤ i ∧ i ≤ 2048) (hN : i + 4 ≤ (gN g : Int)) (hc : c < 512) (hJ : Jv (cB c) σ l) (hk : pcL l + (512 - c) ≤ k) (hn : psL l + 6 * (512 - c) ≤ n) (next : ∀ (τ : sT) (l' : Nat → Nat) (k n : Nat), Jv (cB (c + 1)) τ l' → pcL l' + (511 - c) ≤ k → psL l' + 6 * (511 - c) ≤ n → GW g zL_law k n Φ 2895 [some (.ref (KB + 1)), some (.ref 0), some (.ref 92), some (.ref 108), some (.ref 109), some (iv i), none, none, none, none] [] (mem τ l')) : GW g zL_law k n Φ 2557 [some (.ref (KB + 1)), some (.ref 0), some (.ref 92), some (.ref 108), some (.ref 109), some (iv i), none, none, none, none] [] (mem σ l) := by
  obtain ⟨L, RC, k2, n2, hG, hk2, hn2, hF, hM⟩ := s2_meanCost (g := g) hJ
  have hG1 := hG.1
  have hG2 := hG.2
  refine g_aload1 dL_law_2557 ?_
  refine f_cV0q (hF) rfl (by decide) rfl oY_X5_meanCost oI_X5_meanCost lk_L_302 rfl dL_law_2558 (by omega) (by omega) rfl (okFb_of rfl) (fun σ2558 l2558 h2558 => ?_)
  obtain ⟨hL1, hm⟩ := hM σ2558 l2558 h2558
  have e9 := pcL_eq hL1
  refine g_dstore6 dL_law_2561 rfl (by decide) ?_
  refine g_aload2 dL_law_2563 ?_
  refine f_cV0q (hm) rfl (by decide) rfl oY_X6_meanCost oI_X6_meanCost lk_L_306 rfl dL_law_2564 (by omega) (by omega) rfl (Or.inl rfl) (fun σ2564 l2564 h2564 => ?_)
  obtain ⟨el, hJ2⟩ := h2564
  subst el
  refine g_dstore8 dL_law_2567 rfl (by decide) ?_
  refine g_dload6 dL_law_2569 ?_
  refine g_dload8 dL_law_2571 ?_
  refine g_dcmp dL_law_2573 ?_
  generalize hv : Op.cmpValue (FP.dcmp (wMc (σ 93)) (wMc (σ 93))) .l = v
  rw [vI v]
  refine g_if_eq (rI v) (tgt := 2595) dL_law_2574 rfl (fun h2574 => ?_) (fun h2574 => ?_)
  · refine g_goto (tgt := 2895) dL_law_2595 rfl ?_
    refine g_forget 6 (g_forget 8 ?_)
    exact next _ _ _ _ hJ2 (by omega) (by omega)
  · refine g_dload6 dL_law_2577 ?_
    refine g_dload6 dL_law_2579 ?_
    refine g_dcmp dL_law_2581 ?_
    rw [hv, vI v]
    refine g_if_eq (rI v) (tgt := 2593) dL_law_2582 rfl (fun h2582 => absurd h2582 h2574) (fun h2582 => ?_)
    refine g_dload8 dL_law_2585 ?_
    refine g_dload8 dL_law_2587 ?_
    refine g_dcmp dL_law_2589 ?_
    rw [hv, vI v]
    refine g_if_ne (rI v) (tgt := 2595) dL_law_2590 rfl (fun h2590 => ?_) (fun h2590 => absurd h2590 h2574)
    refine g_goto (tgt := 2895) dL_law_2595 rfl ?_
    refine g_forget 6 (g_forget 8 ?_)
    exact next _ _ _ _ hJ2 (by omega) (by omega)
theorem lw_48 {c : Nat} {i : Int} {k n : Nat} (hi : 0 ≤ i ∧ i ≤ 2048) (hN : i + 4 ≤ (gN g : Int)) (hc : c < 512) (hJ : Jv (cB c) σ l) (hk : pcL l + (512 - c) ≤ k) (hn : psL l + 6 * (512 - c) ≤ n) (next : ∀ (τ : sT) (l' : Nat → Nat) (k n : Nat), Jv (cB (c + 1)) τ l' → pcL l' + (511 - c) ≤ k → psL l' + 6 * (511 - c) ≤ n → GW g zL_law k n Φ 2895 [some (.ref (KB + 1)), some (.ref 0), some (.ref 92), some (.ref 108), some (.ref 109), some (iv i), none, none, none, none] [] (mem τ l')) : GW g zL_law k n Φ 2598 [some (.ref (KB + 1)), some (.ref 0), some (.ref 92), some (.ref 108), some (.ref 109), some (iv i), none, none, none, none] [] (mem σ l) := by
  obtain ⟨kc, b, L, RC, k2, n2, hkc, hQ, hG, hk2, hn2, hF, hM⟩ := st_fingering (g := g) hJ (rI (gX g (i + 1).toNat))
  have hG1 := hG.1
  have hG2 := hG.2
  refine g_aload1 dL_law_2598 ?_
  refine g_aload0 dL_law_2599 ?_
  refine g_iload5 dL_law_2600 ?_
  refine g_iconst dL_law_2602 ?_
  refine g_iadd dL_law_2603 ?_
  refine g_sld ⟨by omega, by omega⟩ (by omega) dL_law_2604 ?_
  rw [sX9]
  refine g_aload4 dL_law_2605 ?_
  refine f_cS3H hF oYX_L_fingering oT_L_fingering (tt5 179 rfl rfl) rfl dL_law_2607 (by omega) (by omega) rfl (okFb_of rfl) (fun σ1 l1 h1 => ?_)
  obtain ⟨hL1, hm⟩ := hM σ1 l1 h1
  have e9 := pcL_eq hL1
  refine g_istore6 dL_law_2610 rfl (by decide) ?_
  refine g_aload2 dL_law_2612 ?_
  refine g_aload0 dL_law_2613 ?_
  refine g_iload5 dL_law_2614 ?_
  refine g_iconst dL_law_2616 ?_
  refine g_iadd dL_law_2617 ?_
  refine g_sld ⟨by omega, by omega⟩ (by omega) dL_law_2618 ?_
  rw [sX9]
  refine f_cV1q (hm) rfl (by decide) rfl oY_X6_fingering oI_X6_fingering lk_L_310 rfl dL_law_2619 (by omega) (by omega) rfl (Or.inl rfl) (fun σ2619 l2619 h2619 => ?_)
  obtain ⟨el, ht, hv, hJ2⟩ := h2619
  subst el
  refine g_fstore7 dL_law_2622 rfl (by decide) ?_
  refine g_aload2 dL_law_2624 ?_
  refine f_cV0w (thrown_m ht) rfl (by decide) rfl oY_X6_thrown oI_X6_thrown lk_L_159 rfl dL_law_2625 rfl (Or.inl rfl) ?_
  refine g_iload6 dL_law_2628 ?_
  refine g_icmp_eqS (tgt := 2635) dL_law_2630 rfl ?_
  refine g_iload6 dL_law_2635 ?_
  refine g_if_ne ⟨by omega, by omega⟩ (tgt := 2673) dL_law_2637 rfl (fun h2637 => ?_) (fun h2637 => ?_)
  · refine g_goto (tgt := 2895) dL_law_2673 rfl ?_
    refine g_forget 6 (g_forget 7 ?_)
    exact next _ _ _ _ hJ2 (by omega) (by omega)
  · refine g_aload4 dL_law_2640 ?_
    refine g_iconst dL_law_2642 ?_
    refine f_dald rfl (by decide) ⟨by omega, by show _ < ((1 : Nat) : Int); omega⟩ dL_law_2643 ?_
    rw [show UInt64.ofNat (σ2619 109 0).toNat = FP.f2d b from by rw [hv (by omega), Int.toNat_natCast, UInt64.ofNat_toNat]]
    refine g_fload7 dL_law_2644 ?_
    refine g_f2d (hQ (by omega)) dL_law_2646 ?_
    refine g_dcmp dL_law_2647 ?_
    rw [dc_0 (hQ (by omega))]
    refine g_if_eq (a := 0) ⟨by decide, by decide⟩ (tgt := 2673) dL_law_2648 rfl (fun h2648 => ?_) (fun h2648 => absurd rfl h2648)
    refine g_goto (tgt := 2895) dL_law_2673 rfl ?_
    refine g_forget 6 (g_forget 7 ?_)
    exact next _ _ _ _ hJ2 (by omega) (by omega)
theorem lw_49 {c : Nat} {i : Int} {k n : Nat} (hi : 0 ≤ i ∧ i ≤ 2048) (hN : i + 4 ≤ (gN g : Int)) (hc : c < 512) (hJ : Jv (cB c) σ l) (hk : pcL l + (512 - c) ≤ k) (hn : psL l + 6 * (512 - c) ≤ n) (next : ∀ (τ : sT) (l' : Nat → Nat) (k n : Nat), Jv (cB (c + 1)) τ l' → pcL l' + (511 - c) ≤ k → psL l' + 6 * (511 - c) ≤ n → GW g zL_law k n Φ 2895 [some (.ref (KB + 1)), some (.ref 0), some (.ref 92), some (.ref 108), some (.ref 109), some (iv i), none, none, none, none] [] (mem τ l')) : GW g zL_law k n Φ 2676 [some (.ref (KB + 1)), some (.ref 0), some (.ref 92), some (.ref 108), some (.ref 109), some (iv i), none, none, none, none] [] (mem σ l) := by
  have hpl := hJ.1
  obtain ⟨kc, b, L, RC, k2, n2, hkc, hQ, hG, hk2, hn2, hF, hM⟩ := st_writePlay (g := g) hJ (rI (gX g (i + 1).toNat))
  have hQ1 := hQ.1
  have hQ2 := hQ.2
  have hG1 := hG.1
  have hG2 := hG.2
  refine g_aload1 dL_law_2676 ?_
  refine g_aload0 dL_law_2677 ?_
  refine g_iload5 dL_law_2678 ?_
  refine g_iconst dL_law_2680 ?_
  refine g_iadd dL_law_2681 ?_
  refine g_sld ⟨by omega, by omega⟩ (by omega) dL_law_2682 ?_
  rw [sX9]
  refine g_aload3 dL_law_2683 ?_
  refine f_cS3H hF oYX_L_writePlay oT_L_writePlay (tt5 186 rfl rfl) rfl dL_law_2684 (by omega) (by omega) rfl (okFb_of rfl) (fun σ1 l1 h1 => ?_)
  obtain ⟨hL1, hm⟩ := hM σ1 l1 h1
  have e9 := pcL_eq hL1
  refine g_istore6 dL_law_2687 rfl (by decide) ?_
  refine g_aload2 dL_law_2689 ?_
  refine g_aload0 dL_law_2690 ?_
  refine g_iload5 dL_law_2691 ?_
  refine g_iconst dL_law_2693 ?_
  refine g_iadd dL_law_2694 ?_
  refine g_sld ⟨by omega, by omega⟩ (by omega) dL_law_2695 ?_
  rw [sX9]
  refine f_cV1q (hm) rfl (by decide) rfl oY_X6_writePlay oI_X6_writePlay lk_L_313 rfl dL_law_2696 (by omega) (by omega) rfl (Or.inl rfl) (fun σ2696 l2696 h2696 => ?_)
  obtain ⟨el, ht, hv, hJ2⟩ := h2696
  subst el
  refine g_istore7 dL_law_2699 rfl (by decide) ?_
  refine g_aload2 dL_law_2701 ?_
  refine f_cV0w (thrown_m ht) rfl (by decide) rfl oY_X6_thrown oI_X6_thrown lk_L_159 rfl dL_law_2702 rfl (Or.inl rfl) ?_
  refine g_iload6 dL_law_2705 ?_
  refine g_icmp_eqS (tgt := 2712) dL_law_2707 rfl ?_
  refine g_iload6 dL_law_2712 ?_
  refine g_if_ne ⟨by omega, by omega⟩ (tgt := 2729) dL_law_2714 rfl (fun h2714 => ?_) (fun h2714 => ?_)
  · refine g_goto (tgt := 2895) dL_law_2729 rfl ?_
    refine g_forget 6 (g_forget 7 ?_)
    exact next _ _ _ _ hJ2 (by omega) (by omega)
  · refine g_aload3 dL_law_2717 ?_
    refine g_iconst dL_law_2718 ?_
    refine f_lald rfl (by decide) ⟨by omega, by show _ < ((1 : Nat) : Int); omega⟩ dL_law_2719 ?_
    rw [hv (by omega)]
    refine g_iload7 dL_law_2720 ?_
    refine g_i2l hQ dL_law_2722 ?_
    refine g_lcmp ⟨by omega, by omega⟩ ⟨by omega, by omega⟩ dL_law_2723 ?_
    refine g_if_eq_sg (tgt := 2729) dL_law_2724 rfl (fun h2724 => ?_) (fun h2724 => absurd h2724 (fun z => z rfl))
    refine g_goto (tgt := 2895) dL_law_2729 rfl ?_
    refine g_forget 6 (g_forget 7 ?_)
    exact next _ _ _ _ hJ2 (by omega) (by omega)
theorem lw_50 {c : Nat} {i : Int} {k n : Nat} (hi : 0 ≤ i ∧ i ≤ 2048) (hN : i + 4 ≤ (gN g : Int)) (hc : c < 512) (hJ : Jv (cB c) σ l) (hk : pcL l + (512 - c) ≤ k) (hn : psL l + 6 * (512 - c) ≤ n) (next : ∀ (τ : sT) (l' : Nat → Nat) (k n : Nat), Jv (cB (c + 1)) τ l' → pcL l' + (511 - c) ≤ k → psL l' + 6 * (511 - c) ≤ n → GW g zL_law k n Φ 2895 [some (.ref (KB + 1)), some (.ref 0), some (.ref 92), some (.ref 108), some (.ref 109), some (iv i), none, none, none, none] [] (mem τ l')) : GW g zL_law k n Φ 2732 [some (.ref (KB + 1)), some (.ref 0), some (.ref 92), some (.ref 108), some (.ref 109), some (iv i), none, none, none, none] [] (mem σ l) := by
  obtain ⟨V, L, RC, k2, n2, hG, hk2, hn2, hF, hM⟩ := s2_writeTune (g := g) hJ
  have hG1 := hG.1
  have hG2 := hG.2
  refine g_aload1 dL_law_2732 ?_
  refine f_cV0q (hF) rfl (by decide) rfl oY_X5_writeTune oI_X5_writeTune lk_L_314 rfl dL_law_2733 (by omega) (by omega) rfl (Or.inl rfl) (fun σ2733 l2733 h2733 => ?_)
  obtain ⟨hL1, hm⟩ := hM σ2733 l2733 h2733
  have e9 := pcL_eq hL1
  refine g_aload2 dL_law_2736 ?_
  refine f_cV0q (hm) rfl (by decide) rfl oY_X6_writeTune oI_X6_writeTune lk_L_317 rfl dL_law_2737 (by omega) (by omega) rfl (Or.inl rfl) (fun σ2737 l2737 h2737 => ?_)
  obtain ⟨el, hJ2⟩ := h2737
  subst el
  refine g_icmp_eqS (tgt := 2895) dL_law_2740 rfl ?_
  exact next _ _ _ _ hJ2 (by omega) (by omega)
theorem lw_51 {c : Nat} {i : Int} {k n : Nat} (hi : 0 ≤ i ∧ i ≤ 2048) (hN : i + 4 ≤ (gN g : Int)) (hc : c < 512) (hJ : Jv (cB c) σ l) (hk : pcL l + (512 - c) ≤ k) (hn : psL l + 6 * (512 - c) ≤ n) (next : ∀ (τ : sT) (l' : Nat → Nat) (k n : Nat), Jv (cB (c + 1)) τ l' → pcL l' + (511 - c) ≤ k → psL l' + 6 * (511 - c) ≤ n → GW g zL_law k n Φ 2895 [some (.ref (KB + 1)), some (.ref 0), some (.ref 92), some (.ref 108), some (.ref 109), some (iv i), none, none, none, none] [] (mem τ l')) : GW g zL_law k n Φ 2745 [some (.ref (KB + 1)), some (.ref 0), some (.ref 92), some (.ref 108), some (.ref 109), some (iv i), none, none, none, none] [] (mem σ l) := by
  obtain ⟨V, L, RC, k2, n2, hG, hk2, hn2, hF, hM⟩ := s2_outputByte (g := g) hJ (rI (gX g (i + 1).toNat))
  have hG1 := hG.1
  have hG2 := hG.2
  refine g_aload1 dL_law_2745 ?_
  refine g_aload0 dL_law_2746 ?_
  refine g_iload5 dL_law_2747 ?_
  refine g_iconst dL_law_2749 ?_
  refine g_iadd dL_law_2750 ?_
  refine g_sld ⟨by omega, by omega⟩ (by omega) dL_law_2751 ?_
  rw [sX9]
  refine f_cV1q (hF) rfl (by decide) rfl oY_X5_outputByte oI_X5_outputByte lk_L_318 rfl dL_law_2752 (by omega) (by omega) rfl (Or.inl rfl) (fun σ2752 l2752 h2752 => ?_)
  obtain ⟨hL1, hm⟩ := hM σ2752 l2752 h2752
  have e9 := pcL_eq hL1
  refine g_aload2 dL_law_2755 ?_
  refine g_aload0 dL_law_2756 ?_
  refine g_iload5 dL_law_2757 ?_
  refine g_iconst dL_law_2759 ?_
  refine g_iadd dL_law_2760 ?_
  refine g_sld ⟨by omega, by omega⟩ (by omega) dL_law_2761 ?_
  rw [sX9]
  refine f_cV1q (hm) rfl (by decide) rfl oY_X6_outputByte oI_X6_outputByte lk_L_321 rfl dL_law_2762 (by omega) (by omega) rfl (Or.inl rfl) (fun σ2762 l2762 h2762 => ?_)
  obtain ⟨el, hJ2⟩ := h2762
  subst el
  refine g_icmp_eqS (tgt := 2895) dL_law_2765 rfl ?_
  exact next _ _ _ _ hJ2 (by omega) (by omega)
theorem lw_52 {c : Nat} {i : Int} {k n : Nat} (hi : 0 ≤ i ∧ i ≤ 2048) (hN : i + 4 ≤ (gN g : Int)) (hc : c < 512) (hJ : Jv (cB c) σ l) (hk : pcL l + (512 - c) ≤ k) (hn : psL l + 6 * (512 - c) ≤ n) (next : ∀ (τ : sT) (l' : Nat → Nat) (k n : Nat), Jv (cB (c + 1)) τ l' → pcL l' + (511 - c) ≤ k → psL l' + 6 * (511 - c) ≤ n → GW g zL_law k n Φ 2895 [some (.ref (KB + 1)), some (.ref 0), some (.ref 92), some (.ref 108), some (.ref 109), some (iv i), none, none, none, none] [] (mem τ l')) : GW g zL_law k n Φ 2770 [some (.ref (KB + 1)), some (.ref 0), some (.ref 92), some (.ref 108), some (.ref 109), some (iv i), none, none, none, none] [] (mem σ l) := by
  obtain ⟨V, L, RC, k2, n2, hG, hk2, hn2, hF, hM⟩ := s2_undo (g := g) hJ
  have hG1 := hG.1
  have hG2 := hG.2
  refine g_aload1 dL_law_2770 ?_
  refine f_cV0q (hF) rfl (by decide) rfl oY_X5_undo oI_X5_undo lk_L_322 rfl dL_law_2771 (by omega) (by omega) rfl (Or.inl rfl) (fun σ2771 l2771 h2771 => ?_)
  obtain ⟨hL1, hm⟩ := hM σ2771 l2771 h2771
  have e9 := pcL_eq hL1
  refine g_aload2 dL_law_2774 ?_
  refine f_cV0q (hm) rfl (by decide) rfl oY_X6_undo oI_X6_undo lk_L_325 rfl dL_law_2775 (by omega) (by omega) rfl (Or.inl rfl) (fun σ2775 l2775 h2775 => ?_)
  obtain ⟨el, hJ2⟩ := h2775
  subst el
  refine g_icmp_eqS (tgt := 2895) dL_law_2778 rfl ?_
  exact next _ _ _ _ hJ2 (by omega) (by omega)
theorem lw_53 {c : Nat} {i : Int} {k n : Nat} (hi : 0 ≤ i ∧ i ≤ 2048) (hN : i + 4 ≤ (gN g : Int)) (hc : c < 512) (hJ : Jv (cB c) σ l) (hk : pcL l + (512 - c) ≤ k) (hn : psL l + 6 * (512 - c) ≤ n) (next : ∀ (τ : sT) (l' : Nat → Nat) (k n : Nat), Jv (cB (c + 1)) τ l' → pcL l' + (511 - c) ≤ k → psL l' + 6 * (511 - c) ≤ n → GW g zL_law k n Φ 2895 [some (.ref (KB + 1)), some (.ref 0), some (.ref 92), some (.ref 108), some (.ref 109), some (iv i), none, none, none, none] [] (mem τ l')) : GW g zL_law k n Φ 2783 [some (.ref (KB + 1)), some (.ref 0), some (.ref 92), some (.ref 108), some (.ref 109), some (iv i), none, none, none, none] [] (mem σ l) := by
  have hpl := hJ.1
  obtain ⟨kc, b, L, RC, k2, n2, hkc, hQ, hG, hk2, hn2, hF, hM⟩ := st_saveSnapshot (g := g) hJ (rI (gX g (i + 1).toNat))
  have hQ1 := hQ.1
  have hQ2 := hQ.2
  have hG1 := hG.1
  have hG2 := hG.2
  refine g_aload1 dL_law_2783 ?_
  refine g_aload0 dL_law_2784 ?_
  refine g_iload5 dL_law_2785 ?_
  refine g_iconst dL_law_2787 ?_
  refine g_iadd dL_law_2788 ?_
  refine g_sld ⟨by omega, by omega⟩ (by omega) dL_law_2789 ?_
  rw [sX9]
  refine g_aload3 dL_law_2790 ?_
  refine f_cS3H hF oYX_L_saveSnapshot oT_L_saveSnapshot (tt5 193 rfl rfl) rfl dL_law_2791 (by omega) (by omega) rfl (okFb_of rfl) (fun σ1 l1 h1 => ?_)
  obtain ⟨hL1, hm⟩ := hM σ1 l1 h1
  have e9 := pcL_eq hL1
  refine g_istore6 dL_law_2794 rfl (by decide) ?_
  refine g_aload2 dL_law_2796 ?_
  refine g_aload0 dL_law_2797 ?_
  refine g_iload5 dL_law_2798 ?_
  refine g_iconst dL_law_2800 ?_
  refine g_iadd dL_law_2801 ?_
  refine g_sld ⟨by omega, by omega⟩ (by omega) dL_law_2802 ?_
  rw [sX9]
  refine f_cV1q (hm) rfl (by decide) rfl oY_X6_saveSnapshot oI_X6_saveSnapshot lk_L_328 rfl dL_law_2803 (by omega) (by omega) rfl (Or.inl rfl) (fun σ2803 l2803 h2803 => ?_)
  obtain ⟨el, ht, hv, hJ2⟩ := h2803
  subst el
  refine g_istore7 dL_law_2806 rfl (by decide) ?_
  refine g_aload2 dL_law_2808 ?_
  refine f_cV0w (thrown_m ht) rfl (by decide) rfl oY_X6_thrown oI_X6_thrown lk_L_159 rfl dL_law_2809 rfl (Or.inl rfl) ?_
  refine g_iload6 dL_law_2812 ?_
  refine g_icmp_eqS (tgt := 2819) dL_law_2814 rfl ?_
  refine g_iload6 dL_law_2819 ?_
  refine g_if_ne ⟨by omega, by omega⟩ (tgt := 2836) dL_law_2821 rfl (fun h2821 => ?_) (fun h2821 => ?_)
  · refine g_goto (tgt := 2895) dL_law_2836 rfl ?_
    refine g_forget 6 (g_forget 7 ?_)
    exact next _ _ _ _ hJ2 (by omega) (by omega)
  · refine g_aload3 dL_law_2824 ?_
    refine g_iconst dL_law_2825 ?_
    refine f_lald rfl (by decide) ⟨by omega, by show _ < ((1 : Nat) : Int); omega⟩ dL_law_2826 ?_
    rw [hv (by omega)]
    refine g_iload7 dL_law_2827 ?_
    refine g_i2l hQ dL_law_2829 ?_
    refine g_lcmp ⟨by omega, by omega⟩ ⟨by omega, by omega⟩ dL_law_2830 ?_
    refine g_if_eq_sg (tgt := 2836) dL_law_2831 rfl (fun h2831 => ?_) (fun h2831 => absurd h2831 (fun z => z rfl))
    refine g_goto (tgt := 2895) dL_law_2836 rfl ?_
    refine g_forget 6 (g_forget 7 ?_)
    exact next _ _ _ _ hJ2 (by omega) (by omega)
theorem lw_54 {c : Nat} {i : Int} {k n : Nat} (hi : 0 ≤ i ∧ i ≤ 2048) (hN : i + 4 ≤ (gN g : Int)) (hc : c < 512) (hJ : Jv (cB c) σ l) (hk : pcL l + (512 - c) ≤ k) (hn : psL l + 6 * (512 - c) ≤ n) (next : ∀ (τ : sT) (l' : Nat → Nat) (k n : Nat), Jv (cB (c + 1)) τ l' → pcL l' + (511 - c) ≤ k → psL l' + 6 * (511 - c) ≤ n → GW g zL_law k n Φ 2895 [some (.ref (KB + 1)), some (.ref 0), some (.ref 92), some (.ref 108), some (.ref 109), some (iv i), none, none, none, none] [] (mem τ l')) : GW g zL_law k n Φ 2839 [some (.ref (KB + 1)), some (.ref 0), some (.ref 92), some (.ref 108), some (.ref 109), some (iv i), none, none, none, none] [] (mem σ l) := by
  have hpl := hJ.1
  obtain ⟨kc, b, L, RC, k2, n2, hkc, hQ, hG, hk2, hn2, hF, hM⟩ := st_restoreSnapshot (g := g) hJ (rI (gX g (i + 1).toNat))
  have hQ1 := hQ.1
  have hQ2 := hQ.2
  have hG1 := hG.1
  have hG2 := hG.2
  refine g_aload1 dL_law_2839 ?_
  refine g_aload0 dL_law_2840 ?_
  refine g_iload5 dL_law_2841 ?_
  refine g_iconst dL_law_2843 ?_
  refine g_iadd dL_law_2844 ?_
  refine g_sld ⟨by omega, by omega⟩ (by omega) dL_law_2845 ?_
  rw [sX9]
  refine g_aload3 dL_law_2846 ?_
  refine f_cS3H hF oYX_L_restoreSnapshot oT_L_restoreSnapshot (tt5 200 rfl rfl) rfl dL_law_2847 (by omega) (by omega) rfl (okFb_of rfl) (fun σ1 l1 h1 => ?_)
  obtain ⟨hL1, hm⟩ := hM σ1 l1 h1
  have e9 := pcL_eq hL1
  refine g_istore6 dL_law_2850 rfl (by decide) ?_
  refine g_aload2 dL_law_2852 ?_
  refine g_aload0 dL_law_2853 ?_
  refine g_iload5 dL_law_2854 ?_
  refine g_iconst dL_law_2856 ?_
  refine g_iadd dL_law_2857 ?_
  refine g_sld ⟨by omega, by omega⟩ (by omega) dL_law_2858 ?_
  rw [sX9]
  refine f_cV1q (hm) rfl (by decide) rfl oY_X6_restoreSnapshot oI_X6_restoreSnapshot lk_L_331 rfl dL_law_2859 (by omega) (by omega) rfl (Or.inl rfl) (fun σ2859 l2859 h2859 => ?_)
  obtain ⟨el, ht, hv, hJ2⟩ := h2859
  subst el
  refine g_istore7 dL_law_2862 rfl (by decide) ?_
  refine g_aload2 dL_law_2864 ?_
  refine f_cV0w (thrown_m ht) rfl (by decide) rfl oY_X6_thrown oI_X6_thrown lk_L_159 rfl dL_law_2865 rfl (Or.inl rfl) ?_
  refine g_iload6 dL_law_2868 ?_
  refine g_icmp_eqS (tgt := 2875) dL_law_2870 rfl ?_
  refine g_iload6 dL_law_2875 ?_
  refine g_if_ne ⟨by omega, by omega⟩ (tgt := 2892) dL_law_2877 rfl (fun h2877 => ?_) (fun h2877 => ?_)
  · refine g_goto (tgt := 2895) dL_law_2892 rfl ?_
    refine g_forget 6 (g_forget 7 ?_)
    exact next _ _ _ _ hJ2 (by omega) (by omega)
  · refine g_aload3 dL_law_2880 ?_
    refine g_iconst dL_law_2881 ?_
    refine f_lald rfl (by decide) ⟨by omega, by show _ < ((1 : Nat) : Int); omega⟩ dL_law_2882 ?_
    rw [hv (by omega)]
    refine g_iload7 dL_law_2883 ?_
    refine g_i2l hQ dL_law_2885 ?_
    refine g_lcmp ⟨by omega, by omega⟩ ⟨by omega, by omega⟩ dL_law_2886 ?_
    refine g_if_eq_sg (tgt := 2892) dL_law_2887 rfl (fun h2887 => ?_) (fun h2887 => absurd h2887 (fun z => z rfl))
    refine g_goto (tgt := 2895) dL_law_2892 rfl ?_
    refine g_forget 6 (g_forget 7 ?_)
    exact next _ _ _ _ hJ2 (by omega) (by omega)
end C95
