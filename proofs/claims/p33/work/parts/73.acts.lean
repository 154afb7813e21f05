/-! ===== acts ===== -/
set_option maxRecDepth 100000 in
set_option maxHeartbeats 4000000 in
theorem c_L_acts {E : En} {G : Wd} {A : Ast} (hC : CRel G A) (hA : AOk A) {x y : Int} : Cti E yL_acts cL_acts 11 .boolean 7 176 [.ref (E.1 0), .int (iN x), .int (iN y)] G (fun z G' => z = 1 ∧ ∃ B, CRel G' B ∧ AOk B ∧ Nx A B) := by
  obtain ⟨hv0, hv1, hv2, hv3, hv4, hv5a, hv5b⟩ := id hA.1.1
  have hcl := hA.1.2.1.1
  have hsl := hA.1.2.2.1
  refine Cti.mk [some (.ref (E.1 0)), some (.int (iN x)), some (.int (iN y)), none, none, none, none, none, none, none, none] (by decide) rfl (by intro v hv; simp only [List.mem_cons, List.not_mem_nil, or_false] at hv; rcases hv with rfl | rfl | rfl <;> rfl) (Nat.le_of_ble_eq_true rfl) ?_
  intro p l e s m args below meth c cx
  have L621 : ∀ (hm : Int) (G1 : Wd), (0 ≤ hm ∧ hm ≤ 4) → (CRel G1 A) → Z p l e (zr 7 176) s m args below meth c 11 0 0 E (Qi_ E below args s (fun z G' => z = 1 ∧ ∃ B, CRel G' B ∧ AOk B ∧ Nx A B)) G1 621 [some (.ref (E.1 0)), some (.int (iN x)), some (.int (iN y)), none, none, none, none, none, none, none, none] [.int (iN hm), .ref (E.1 0)] := by
    intro hm G1 hhm hC
    refine z_iload_n cx dL_acts_621 rfl ?_
    refine z_si cx (c_L_moves (y := y) hC hA hhm) rfl ms_L_moves ml_L_133 dL_acts_622 (fun z622 G622 hz622 => ?_)
    obtain ⟨hq, B, hC, hB, hN⟩ := hz622
    subst hq
    refine z_zret cx dL_acts_625 ?_
    exact ⟨by omega, _, hC, hB, hN⟩
  have L481 : ∀ (wt vl bd hd told w : Int) (B : Ast) (G1 : Wd), (0 ≤ wt ∧ wt ≤ 6) → (-1 ≤ vl ∧ vl ≤ 260) → (((wt = 6 ∧ hd = 0) ∨ (wt < 6 ∧ hd = A.1.1 wt.toNat)) ∧ 0 ≤ hd ∧ hd ≤ 250) → (bd = 0 ∨ bd = 1) → (w = told) → (-10 ≤ told ∧ told ≤ 250) → (AOk B) → (Nx A B) → (wt < 6 → (bd = 1 ∧ B.1.1 wt.toNat = hd) ∨ (bd = 0 ∧ B.1.1 wt.toNat = vl)) → (CRel G1 B) → Z p l e (zr 7 176) s m args below meth c 11 0 0 E (Qi_ E below args s (fun z G' => z = 1 ∧ ∃ B, CRel G' B ∧ AOk B ∧ Nx A B)) G1 481 [some (.ref (E.1 0)), some (.int (iN x)), some (.int (iN y)), none, some (.int (iN (A.1.2.1.length : Int))), some (.int (iN wt)), none, none, some (.int (iN vl)), some (.int (iN bd)), some (.int (iN hd))] [.int (iN w), .int (iN told)] := by
    intro wt vl bd hd told w B G1 hwt hvl2 hhd hbd01 hw2 htl hB hN hBv hC
    refine z_icmp_ne cx (tgt := 516) dL_acts_481 (fun h481 => ?_) (fun h481 => ?_)
    · skip
      exfalso; omega
    · skip
      refine z_iload cx dL_acts_484 rfl ?_
      refine z_bipush cx dL_acts_486 ?_
      refine z_icmp_eq cx (tgt := 512) dL_acts_488 (fun h488 => ?_) (fun h488 => ?_)
      · skip
        refine z_iconst cx dL_acts_512 ?_
        refine z_goto cx (tgt := 517) dL_acts_513 ?_
        refine z_zret cx dL_acts_517 ?_
        exact ⟨by omega, _, hC, hB, hN⟩
      · skip
        refine z_aload_n cx dL_acts_491 rfl ?_
        refine z_iload cx dL_acts_492 rfl ?_
        refine z_vi cx (c_X4_setting hC hB (by omega)) rfl mv_X4_setting ml_L_13 (by omega) (co_main E _) rfl dL_acts_494 (fun z494 G494 hz494 => ?_)
        obtain ⟨hq, hC, -⟩ := hz494
        have hq := hq.trans (rv_any (A := B) (by omega))
        subst hq
        have hvb := val_b hB (wt := wt) (by omega)
        refine z_iload cx dL_acts_497 rfl ?_
        refine z_if_eq cx (tgt := 507) dL_acts_499 (fun h499 => ?_) (fun h499 => ?_)
        · skip
          refine z_iload cx dL_acts_507 rfl ?_
          refine z_icmp_ne cx (tgt := 516) dL_acts_509 (fun h509 => ?_) (fun h509 => ?_)
          · skip
            exfalso; omega
          · skip
            refine z_iconst cx dL_acts_512 ?_
            refine z_goto cx (tgt := 517) dL_acts_513 ?_
            refine z_zret cx dL_acts_517 ?_
            exact ⟨by omega, _, hC, hB, hN⟩
        · skip
          refine z_iload cx dL_acts_502 rfl ?_
          refine z_goto cx (tgt := 509) dL_acts_504 ?_
          refine z_icmp_ne cx (tgt := 516) dL_acts_509 (fun h509 => ?_) (fun h509 => ?_)
          · skip
            exfalso; omega
          · skip
            refine z_iconst cx dL_acts_512 ?_
            refine z_goto cx (tgt := 517) dL_acts_513 ?_
            refine z_zret cx dL_acts_517 ?_
            exact ⟨by omega, _, hC, hB, hN⟩
  have L448 : ∀ (wt lo hi vl bd hd : Int) (G1 : Wd), (0 ≤ wt ∧ wt ≤ 6) → (LoP wt lo) → (HiP wt hi) → (lo - 1 ≤ vl ∧ vl ≤ hi + 1) → ((bd = 1 ∧ (vl < lo ∨ hi < vl)) ∨ (bd = 0 ∧ lo ≤ vl ∧ vl ≤ hi)) → (((wt = 6 ∧ hd = 0) ∨ (wt < 6 ∧ hd = A.1.1 wt.toNat)) ∧ 0 ≤ hd ∧ hd ≤ 250) → (CRel G1 A) → Z p l e (zr 7 176) s m args below meth c 11 0 0 E (Qi_ E below args s (fun z G' => z = 1 ∧ ∃ B, CRel G' B ∧ AOk B ∧ Nx A B)) G1 448 [some (.ref (E.1 0)), some (.int (iN x)), some (.int (iN y)), none, some (.int (iN (A.1.2.1.length : Int))), some (.int (iN wt)), some (.int (iN lo)), some (.int (iN hi)), some (.int (iN vl)), some (.int (iN bd)), none] [.int (iN hd)] := by
    intro wt lo hi vl bd hd G1 hwt hlo hhi hvl hbd hhd hC
    have hlh := LH_b hlo hhi
    refine z_istore cx dL_acts_448 ?_
    refine z_aload_n cx dL_acts_450 rfl ?_
    refine z_iload cx dL_acts_451 rfl ?_
    refine z_iload cx dL_acts_453 rfl ?_
    refine z_vi cx (c_X4_set hC hA (by omega) (by omega)) rfl mv_X4_set ml_L_127 (by omega) (co_main E _) rfl dL_acts_455 (fun z455 G455 hz455 => ?_)
    obtain ⟨hq, hC, -⟩ := hz455
    obtain ⟨B, told, hs0, hB, hN, hP⟩ := st_post hA (vl := vl) hwt hlo hhi
    rw [hs0] at hq hC
    dsimp only at hq hC
    subst hq
    refine z_iload cx dL_acts_458 rfl ?_
    refine z_bipush cx dL_acts_460 ?_
    refine z_icmp_ne cx (tgt := 469) dL_acts_462 (fun h462 => ?_) (fun h462 => ?_)
    · skip
      refine z_iload cx dL_acts_469 rfl ?_
      refine z_if_eq cx (tgt := 479) dL_acts_471 (fun h471 => ?_) (fun h471 => ?_)
      · skip
        refine z_iload cx dL_acts_479 rfl ?_
        refine Z.locs (L481 _ _ _ _ _ _ _ _ hwt (by omega) hhd (by omega) (by omega) (by omega) hB hN (by omega) hC) ⟨rfl, rfl, rfl, rfl, rfl, rfl, rfl, rfl, trivial⟩
      · skip
        refine z_bipush cx dL_acts_474 ?_
        refine z_goto cx (tgt := 481) dL_acts_476 ?_
        refine Z.locs (L481 _ _ _ _ _ _ _ _ hwt (by omega) hhd (by omega) (by omega) (by omega) hB hN (by omega) hC) ⟨rfl, rfl, rfl, rfl, rfl, rfl, rfl, rfl, trivial⟩
    · skip
      refine z_iconst cx dL_acts_465 ?_
      refine z_goto cx (tgt := 481) dL_acts_466 ?_
      refine Z.locs (L481 _ _ _ _ _ _ _ _ hwt (by omega) hhd (by omega) (by omega) (by omega) hB hN (by omega) hC) ⟨rfl, rfl, rfl, rfl, rfl, rfl, rfl, rfl, trivial⟩
  have L429 : ∀ (wt lo hi vl bd : Int) (G1 : Wd), (0 ≤ wt ∧ wt ≤ 6) → (LoP wt lo) → (HiP wt hi) → (lo - 1 ≤ vl ∧ vl ≤ hi + 1) → ((bd = 1 ∧ (vl < lo ∨ hi < vl)) ∨ (bd = 0 ∧ lo ≤ vl ∧ vl ≤ hi)) → (CRel G1 A) → Z p l e (zr 7 176) s m args below meth c 11 0 0 E (Qi_ E below args s (fun z G' => z = 1 ∧ ∃ B, CRel G' B ∧ AOk B ∧ Nx A B)) G1 429 [some (.ref (E.1 0)), some (.int (iN x)), some (.int (iN y)), none, some (.int (iN (A.1.2.1.length : Int))), some (.int (iN wt)), some (.int (iN lo)), some (.int (iN hi)), some (.int (iN vl)), none, none] [.int (iN bd)] := by
    intro wt lo hi vl bd G1 hwt hlo hhi hvl hbd hC
    have hlh := LH_b hlo hhi
    refine z_istore cx dL_acts_429 ?_
    refine z_iload cx dL_acts_431 rfl ?_
    refine z_bipush cx dL_acts_433 ?_
    refine z_icmp_ne cx (tgt := 442) dL_acts_435 (fun h435 => ?_) (fun h435 => ?_)
    · skip
      refine z_aload_n cx dL_acts_442 rfl ?_
      refine z_iload cx dL_acts_443 rfl ?_
      refine z_vi cx (c_X4_setting hC hA (by omega)) rfl mv_X4_setting ml_L_13 (by omega) (co_main E _) rfl dL_acts_445 (fun z445 G445 hz445 => ?_)
      obtain ⟨hq, hC, -⟩ := hz445
      have hq := hq.trans (rv_any (by omega))
      subst hq
      have hvb := val_b hA (wt := wt) (by omega)
      refine Z.locs (L448 _ _ _ _ _ _ _ hwt hlo hhi hvl hbd (by omega) hC) ⟨rfl, rfl, rfl, rfl, rfl, rfl, rfl, rfl, rfl, trivial⟩
    · skip
      refine z_iconst cx dL_acts_438 ?_
      refine z_goto cx (tgt := 448) dL_acts_439 ?_
      refine Z.locs (L448 _ _ _ _ _ _ _ hwt hlo hhi hvl hbd (by omega) hC) ⟨rfl, rfl, rfl, rfl, rfl, rfl, rfl, rfl, rfl, trivial⟩
  have L388 : ∀ (wt lo hi : Int) (G1 : Wd), (0 ≤ wt ∧ wt ≤ 6) → (LoP wt lo) → (HiP wt hi) → (CRel G1 A) → Z p l e (zr 7 176) s m args below meth c 11 0 0 E (Qi_ E below args s (fun z G' => z = 1 ∧ ∃ B, CRel G' B ∧ AOk B ∧ Nx A B)) G1 388 [some (.ref (E.1 0)), some (.int (iN x)), some (.int (iN y)), none, some (.int (iN (A.1.2.1.length : Int))), some (.int (iN wt)), some (.int (iN lo)), none, none, none, none] [.int (iN hi)] := by
    intro wt lo hi G1 hwt hlo hhi hC
    refine z_istore cx dL_acts_388 ?_
    have hlh := LH_b hlo hhi
    refine z_iload cx dL_acts_390 rfl ?_
    refine z_iconst cx dL_acts_392 ?_
    refine z_isub cx dL_acts_393 ?_
    refine z_iload_n cx dL_acts_394 rfl ?_
    refine z_iconst cx dL_acts_395 ?_
    refine z_ishr cx dL_acts_396 (fun z396 hs396 => ?_)
    refine z_iload cx dL_acts_397 rfl ?_
    refine z_iload cx dL_acts_399 rfl ?_
    refine z_isub cx dL_acts_401 ?_
    refine z_iconst cx dL_acts_402 ?_
    refine z_iadd cx dL_acts_403 ?_
    refine z_si cx (c_L_low (by omega)) rfl ms_L_low ml_L_58 dL_acts_404 (fun z404 G404 hz404 => ?_)
    obtain ⟨hq404, hl404, hu404, hG⟩ := hz404
    subst hG
    refine z_iadd cx dL_acts_407 ?_
    refine z_istore cx dL_acts_408 ?_
    refine z_iload cx dL_acts_410 rfl ?_
    refine z_iload cx dL_acts_412 rfl ?_
    refine z_icmp_lt cx (tgt := 424) dL_acts_414 (fun h414 => ?_) (fun h414 => ?_)
    · skip
      refine z_iconst cx dL_acts_424 ?_
      refine z_goto cx (tgt := 429) dL_acts_425 ?_
      refine Z.locs (L429 _ _ _ _ _ _ hwt hlo hhi (by omega) (by omega) hC) ⟨rfl, rfl, rfl, rfl, rfl, rfl, rfl, rfl, trivial⟩
    · skip
      refine z_iload cx dL_acts_417 rfl ?_
      refine z_iload cx dL_acts_419 rfl ?_
      refine z_icmp_le cx (tgt := 428) dL_acts_421 (fun h421 => ?_) (fun h421 => ?_)
      · skip
        refine z_iconst cx dL_acts_428 ?_
        refine Z.locs (L429 _ _ _ _ _ _ hwt hlo hhi (by omega) (by omega) hC) ⟨rfl, rfl, rfl, rfl, rfl, rfl, rfl, rfl, trivial⟩
      · skip
        refine z_iconst cx dL_acts_424 ?_
        refine z_goto cx (tgt := 429) dL_acts_425 ?_
        refine Z.locs (L429 _ _ _ _ _ _ hwt hlo hhi (by omega) (by omega) hC) ⟨rfl, rfl, rfl, rfl, rfl, rfl, rfl, rfl, trivial⟩
  have L334 : ∀ (wt lo : Int) (G1 : Wd), (0 ≤ wt ∧ wt ≤ 6) → (LoP wt lo) → (CRel G1 A) → Z p l e (zr 7 176) s m args below meth c 11 0 0 E (Qi_ E below args s (fun z G' => z = 1 ∧ ∃ B, CRel G' B ∧ AOk B ∧ Nx A B)) G1 334 [some (.ref (E.1 0)), some (.int (iN x)), some (.int (iN y)), none, some (.int (iN (A.1.2.1.length : Int))), some (.int (iN wt)), none, none, none, none, none] [.int (iN lo)] := by
    intro wt lo G1 hwt hlo hC
    refine z_istore cx dL_acts_334 ?_
    refine z_iload cx dL_acts_336 rfl ?_
    refine z_if_eq cx (tgt := 347) dL_acts_338 (fun h338 => ?_) (fun h338 => ?_)
    · skip
      refine z_bipush cx dL_acts_347 ?_
      refine z_goto cx (tgt := 388) dL_acts_349 ?_
      refine Z.locs (L388 _ _ _ _ hwt hlo (by unfold HiP; omega) hC) ⟨rfl, rfl, rfl, rfl, rfl, rfl, trivial⟩
    · skip
      refine z_iload cx dL_acts_341 rfl ?_
      refine z_iconst cx dL_acts_343 ?_
      refine z_icmp_ne cx (tgt := 352) dL_acts_344 (fun h344 => ?_) (fun h344 => ?_)
      · skip
        refine z_iload cx dL_acts_352 rfl ?_
        refine z_iconst cx dL_acts_354 ?_
        refine z_icmp_ne cx (tgt := 363) dL_acts_355 (fun h355 => ?_) (fun h355 => ?_)
        · skip
          refine z_iload cx dL_acts_363 rfl ?_
          refine z_iconst cx dL_acts_365 ?_
          refine z_icmp_ne cx (tgt := 374) dL_acts_366 (fun h366 => ?_) (fun h366 => ?_)
          · skip
            refine z_iload cx dL_acts_374 rfl ?_
            refine z_iconst cx dL_acts_376 ?_
            refine z_icmp_ne cx (tgt := 386) dL_acts_377 (fun h377 => ?_) (fun h377 => ?_)
            · skip
              refine z_bipush cx dL_acts_386 ?_
              refine Z.locs (L388 _ _ _ _ hwt hlo (by unfold HiP; omega) hC) ⟨rfl, rfl, rfl, rfl, rfl, rfl, trivial⟩
            · skip
              refine z_sipush cx dL_acts_380 ?_
              refine z_goto cx (tgt := 388) dL_acts_383 ?_
              refine Z.locs (L388 _ _ _ _ hwt hlo (by unfold HiP; omega) hC) ⟨rfl, rfl, rfl, rfl, rfl, rfl, trivial⟩
          · skip
            refine z_bipush cx dL_acts_369 ?_
            refine z_goto cx (tgt := 388) dL_acts_371 ?_
            refine Z.locs (L388 _ _ _ _ hwt hlo (by unfold HiP; omega) hC) ⟨rfl, rfl, rfl, rfl, rfl, rfl, trivial⟩
        · skip
          refine z_bipush cx dL_acts_358 ?_
          refine z_goto cx (tgt := 388) dL_acts_360 ?_
          refine Z.locs (L388 _ _ _ _ hwt hlo (by unfold HiP; omega) hC) ⟨rfl, rfl, rfl, rfl, rfl, rfl, trivial⟩
      · skip
        refine z_bipush cx dL_acts_347 ?_
        refine z_goto cx (tgt := 388) dL_acts_349 ?_
        refine Z.locs (L388 _ _ _ _ hwt hlo (by unfold HiP; omega) hC) ⟨rfl, rfl, rfl, rfl, rfl, rfl, trivial⟩
  have L232 : ∀ (fr : Int) (G1 : Wd), ((fr = 0 ∧ (bit (hasC A.1.2.1 fr) 1) = 0) ∨ ((1 ≤ fr ∧ fr ≤ 4999) ∧ (bit (hasC A.1.2.1 fr) 1) = 1)) → (CRel G1 A) → Z p l e (zr 7 176) s m args below meth c 11 0 0 E (Qi_ E below args s (fun z G' => z = 1 ∧ ∃ B, CRel G' B ∧ AOk B ∧ Nx A B)) G1 232 [some (.ref (E.1 0)), some (.int (iN x)), some (.int (iN y)), none, some (.int (iN (A.1.2.1.length : Int))), none, none, none, none, none, none] [.int (iN fr)] := by
    intro fr G1 hfr hC
    refine z_istore cx dL_acts_232 ?_
    refine z_aload_n cx dL_acts_234 rfl ?_
    refine z_iload cx dL_acts_235 rfl ?_
    refine z_vi cx (c_X4_uncut hC hA (by omega)) rfl mv_X4_uncut ml_L_124 (by omega) (co_main E _) rfl dL_acts_237 (fun z237 G237 hz237 => ?_)
    obtain ⟨hq, hC, -⟩ := hz237
    obtain ⟨B, told, hs0, hB, hN, hP⟩ := un_post hA (f := fr)
    rw [hs0] at hq hC
    dsimp only at hq hC
    subst hq
    refine z_iload cx dL_acts_240 rfl ?_
    refine z_if_ne cx (tgt := 249) dL_acts_242 (fun h242 => ?_) (fun h242 => ?_)
    · skip
      refine z_iload cx dL_acts_249 rfl ?_
      refine z_iconst cx dL_acts_251 ?_
      refine z_isub cx dL_acts_252 ?_
      refine z_icmp_ne cx (tgt := 280) dL_acts_253 (fun h253 => ?_) (fun h253 => ?_)
      · skip
        exfalso; omega
      · skip
        refine z_aload_n cx dL_acts_256 rfl ?_
        refine z_vi cx (c_X4_cuts hC hB) rfl mv_X4_cuts ml_L_19 (by omega) (co_main E _) rfl dL_acts_257 (fun z257 G257 hz257 => ?_)
        obtain ⟨hq, hC, -⟩ := hz257
        subst hq
        refine z_iload cx dL_acts_260 rfl ?_
        refine z_iload cx dL_acts_262 rfl ?_
        refine z_if_ne cx (tgt := 271) dL_acts_264 (fun h264 => ?_) (fun h264 => ?_)
        · skip
          refine z_iconst cx dL_acts_271 ?_
          refine z_isub cx dL_acts_272 ?_
          refine z_icmp_ne cx (tgt := 280) dL_acts_273 (fun h273 => ?_) (fun h273 => ?_)
          · skip
            exfalso; omega
          · skip
            refine z_iconst cx dL_acts_276 ?_
            refine z_goto cx (tgt := 281) dL_acts_277 ?_
            refine z_zret cx dL_acts_281 ?_
            exact ⟨by omega, _, hC, hB, hN⟩
        · skip
          refine z_iconst cx dL_acts_267 ?_
          refine z_goto cx (tgt := 272) dL_acts_268 ?_
          refine z_isub cx dL_acts_272 ?_
          refine z_icmp_ne cx (tgt := 280) dL_acts_273 (fun h273 => ?_) (fun h273 => ?_)
          · skip
            exfalso; omega
          · skip
            refine z_iconst cx dL_acts_276 ?_
            refine z_goto cx (tgt := 281) dL_acts_277 ?_
            refine z_zret cx dL_acts_281 ?_
            exact ⟨by omega, _, hC, hB, hN⟩
    · skip
      refine z_iconst cx dL_acts_245 ?_
      refine z_goto cx (tgt := 253) dL_acts_246 ?_
      refine z_icmp_ne cx (tgt := 280) dL_acts_253 (fun h253 => ?_) (fun h253 => ?_)
      · skip
        exfalso; omega
      · skip
        refine z_aload_n cx dL_acts_256 rfl ?_
        refine z_vi cx (c_X4_cuts hC hB) rfl mv_X4_cuts ml_L_19 (by omega) (co_main E _) rfl dL_acts_257 (fun z257 G257 hz257 => ?_)
        obtain ⟨hq, hC, -⟩ := hz257
        subst hq
        refine z_iload cx dL_acts_260 rfl ?_
        refine z_iload cx dL_acts_262 rfl ?_
        refine z_if_ne cx (tgt := 271) dL_acts_264 (fun h264 => ?_) (fun h264 => ?_)
        · skip
          refine z_iconst cx dL_acts_271 ?_
          refine z_isub cx dL_acts_272 ?_
          refine z_icmp_ne cx (tgt := 280) dL_acts_273 (fun h273 => ?_) (fun h273 => ?_)
          · skip
            exfalso; omega
          · skip
            refine z_iconst cx dL_acts_276 ?_
            refine z_goto cx (tgt := 281) dL_acts_277 ?_
            refine z_zret cx dL_acts_281 ?_
            exact ⟨by omega, _, hC, hB, hN⟩
        · skip
          refine z_iconst cx dL_acts_267 ?_
          refine z_goto cx (tgt := 272) dL_acts_268 ?_
          refine z_isub cx dL_acts_272 ?_
          refine z_icmp_ne cx (tgt := 280) dL_acts_273 (fun h273 => ?_) (fun h273 => ?_)
          · skip
            exfalso; omega
          · skip
            refine z_iconst cx dL_acts_276 ?_
            refine z_goto cx (tgt := 281) dL_acts_277 ?_
            refine z_zret cx dL_acts_281 ?_
            exact ⟨by omega, _, hC, hB, hN⟩
  have L169 : ∀ (fr bd hs told w : Int) (B : Ast) (G1 : Wd), (w = told) → (-10 ≤ told ∧ told ≤ 13) → (AOk B) → (Nx A B) → ((told < 0 ∧ (B.1.2.1.length : Int) = (A.1.2.1.length : Int)) ∨ (0 ≤ told ∧ (B.1.2.1.length : Int) = told)) → (CRel G1 B) → Z p l e (zr 7 176) s m args below meth c 11 0 0 E (Qi_ E below args s (fun z G' => z = 1 ∧ ∃ B, CRel G' B ∧ AOk B ∧ Nx A B)) G1 169 [some (.ref (E.1 0)), some (.int (iN x)), some (.int (iN y)), none, some (.int (iN (A.1.2.1.length : Int))), some (.int (iN fr)), some (.int (iN bd)), some (.int (iN hs)), some (.int (iN told)), none, none] [.int (iN w), .int (iN told)] := by
    intro fr bd hs told w B G1 hw2 hlo hB hN hBl hC
    refine z_icmp_ne cx (tgt := 195) dL_acts_169 (fun h169 => ?_) (fun h169 => ?_)
    · skip
      exfalso; omega
    · skip
      refine z_aload_n cx dL_acts_172 rfl ?_
      refine z_vi cx (c_X4_cuts hC hB) rfl mv_X4_cuts ml_L_19 (by omega) (co_main E _) rfl dL_acts_173 (fun z173 G173 hz173 => ?_)
      obtain ⟨hq, hC, -⟩ := hz173
      subst hq
      refine z_iload cx dL_acts_176 rfl ?_
      refine z_if_ge cx (tgt := 186) dL_acts_178 (fun h178 => ?_) (fun h178 => ?_)
      · skip
        refine z_iload cx dL_acts_186 rfl ?_
        refine z_icmp_ne cx (tgt := 195) dL_acts_188 (fun h188 => ?_) (fun h188 => ?_)
        · skip
          exfalso; omega
        · skip
          refine z_iconst cx dL_acts_191 ?_
          refine z_goto cx (tgt := 196) dL_acts_192 ?_
          refine z_zret cx dL_acts_196 ?_
          exact ⟨by omega, _, hC, hB, hN⟩
      · skip
        refine z_iload cx dL_acts_181 rfl ?_
        refine z_goto cx (tgt := 188) dL_acts_183 ?_
        refine z_icmp_ne cx (tgt := 195) dL_acts_188 (fun h188 => ?_) (fun h188 => ?_)
        · skip
          exfalso; omega
        · skip
          refine z_iconst cx dL_acts_191 ?_
          refine z_goto cx (tgt := 196) dL_acts_192 ?_
          refine z_zret cx dL_acts_196 ?_
          exact ⟨by omega, _, hC, hB, hN⟩
  have L87 : ∀ (n : Nat) (fr bd hs : Int) (k : Nat) (G1 : Wd), (A.1.2.1.length - k) < n → (0 ≤ fr ∧ fr ≤ 5001) → ((bd = 1 ∧ (fr < 1 ∨ 4999 < fr)) ∨ (bd = 0 ∧ 1 ≤ fr ∧ fr ≤ 4999)) → (k ≤ A.1.2.1.length) → (hs = bit (hasP A.1.2.1 fr k) 1) → (CRel G1 A) → Z p l e (zr 7 176) s m args below meth c 11 0 0 E (Qi_ E below args s (fun z G' => z = 1 ∧ ∃ B, CRel G' B ∧ AOk B ∧ Nx A B)) G1 87 [some (.ref (E.1 0)), some (.int (iN x)), some (.int (iN y)), none, some (.int (iN (A.1.2.1.length : Int))), some (.int (iN fr)), some (.int (iN bd)), some (.int (iN hs)), some (.int (iN (k : Int))), none, none] [] := by
    intro n
    induction n with
    | zero =>
      intro fr bd hs k G1 hmu
      exact absurd hmu (Nat.not_lt_zero _)
    | succ n ih =>
      intro fr bd hs k G1 hmu hfr hbd hk hhs hC
      have hw01 := bit_01 (hasP A.1.2.1 fr k)
      rw [← hhs] at hw01
      have hcb : ∀ h : k < A.1.2.1.length, 1 ≤ A.1.2.1.getD k 0 ∧ A.1.2.1.getD k 0 ≤ 4999 := fun h => hA.1.2.1.2.1 k h
      refine z_iload cx dL_acts_87 rfl ?_
      refine z_iload cx dL_acts_89 rfl ?_
      refine z_icmp_ge cx (tgt := 123) dL_acts_91 (fun h91 => ?_) (fun h91 => ?_)
      · skip
        refine z_aload_n cx dL_acts_123 rfl ?_
        refine z_iload cx dL_acts_124 rfl ?_
        refine z_vi cx (c_X4_cut hC hA (by omega)) rfl mv_X4_cut ml_L_121 (by omega) (co_main E _) rfl dL_acts_126 (fun z126 G126 hz126 => ?_)
        obtain ⟨hq, hC, -⟩ := hz126
        obtain ⟨B, told, hs0, hB, hN, hBl, hP⟩ := ct_post hA (f := fr)
        rw [hs0] at hq hC
        dsimp only at hq hC
        subst hq
        obtain rfl : k = A.1.2.1.length := by omega
        have hhs2 : hs = bit (hasC A.1.2.1 fr) 1 := hhs
        have hw01 := bit_01 (hasC A.1.2.1 fr)
        refine z_istore cx dL_acts_129 ?_
        refine z_iload cx dL_acts_131 rfl ?_
        refine z_iload cx dL_acts_133 rfl ?_
        refine z_if_eq cx (tgt := 143) dL_acts_135 (fun h135 => ?_) (fun h135 => ?_)
        · skip
          refine z_iload cx dL_acts_143 rfl ?_
          refine z_if_eq cx (tgt := 153) dL_acts_145 (fun h145 => ?_) (fun h145 => ?_)
          · skip
            refine z_iload cx dL_acts_153 rfl ?_
            refine z_bipush cx dL_acts_155 ?_
            refine z_icmp_ne cx (tgt := 165) dL_acts_157 (fun h157 => ?_) (fun h157 => ?_)
            · skip
              refine z_iload cx dL_acts_165 rfl ?_
              refine z_iconst cx dL_acts_167 ?_
              refine z_iadd cx dL_acts_168 ?_
              refine Z.locs (L169 _ _ _ _ _ _ _ (by omega) (by omega) hB hN hBl hC) ⟨rfl, rfl, rfl, rfl, rfl, rfl, rfl, rfl, trivial⟩
            · skip
              refine z_bipush cx dL_acts_160 ?_
              refine z_goto cx (tgt := 169) dL_acts_162 ?_
              refine Z.locs (L169 _ _ _ _ _ _ _ (by omega) (by omega) hB hN hBl hC) ⟨rfl, rfl, rfl, rfl, rfl, rfl, rfl, rfl, trivial⟩
          · skip
            refine z_bipush cx dL_acts_148 ?_
            refine z_goto cx (tgt := 169) dL_acts_150 ?_
            refine Z.locs (L169 _ _ _ _ _ _ _ (by omega) (by omega) hB hN hBl hC) ⟨rfl, rfl, rfl, rfl, rfl, rfl, rfl, rfl, trivial⟩
        · skip
          refine z_bipush cx dL_acts_138 ?_
          refine z_goto cx (tgt := 169) dL_acts_140 ?_
          refine Z.locs (L169 _ _ _ _ _ _ _ (by omega) (by omega) hB hN hBl hC) ⟨rfl, rfl, rfl, rfl, rfl, rfl, rfl, rfl, trivial⟩
      · skip
        refine z_iload cx dL_acts_94 rfl ?_
        refine z_if_ne cx (tgt := 110) dL_acts_96 (fun h96 => ?_) (fun h96 => ?_)
        · skip
          refine z_iconst cx dL_acts_110 ?_
          refine z_goto cx (tgt := 115) dL_acts_111 ?_
          refine z_istore cx dL_acts_115 ?_
          refine z_iinc cx dL_acts_117 rfl ?_
          refine z_goto cx (tgt := 87) dL_acts_120 ?_
          refine Z.locs (ih _ _ _ (k + 1) _ (by omega) hfr hbd (by omega) (by first | exact has_1 hhs h96 | exact has_2 (by omega) | exact has_3 hhs h96 (by omega)) hC) ⟨rfl, rfl, rfl, rfl, rfl, rfl, rfl, rfl, trivial⟩
        · skip
          refine z_aload_n cx dL_acts_99 rfl ?_
          refine z_iload cx dL_acts_100 rfl ?_
          refine z_vi cx (c_X4_cutAt hC hA (by omega)) rfl mv_X4_cutAt ml_L_23 (by omega) (co_main E _) rfl dL_acts_102 (fun z102 G102 hz102 => ?_)
          obtain ⟨hq, hC, -⟩ := hz102
          have hq := hq.trans (rk_nat (by omega))
          subst hq
          have hcb2 := hcb (by omega)
          refine z_iload cx dL_acts_105 rfl ?_
          refine z_icmp_ne cx (tgt := 114) dL_acts_107 (fun h107 => ?_) (fun h107 => ?_)
          · skip
            refine z_iconst cx dL_acts_114 ?_
            refine z_istore cx dL_acts_115 ?_
            refine z_iinc cx dL_acts_117 rfl ?_
            refine z_goto cx (tgt := 87) dL_acts_120 ?_
            refine Z.locs (ih _ _ _ (k + 1) _ (by omega) hfr hbd (by omega) (by first | exact has_1 hhs h96 | exact has_2 (by omega) | exact has_3 hhs h96 (by omega)) hC) ⟨rfl, rfl, rfl, rfl, rfl, rfl, rfl, rfl, trivial⟩
          · skip
            refine z_iconst cx dL_acts_110 ?_
            refine z_goto cx (tgt := 115) dL_acts_111 ?_
            refine z_istore cx dL_acts_115 ?_
            refine z_iinc cx dL_acts_117 rfl ?_
            refine z_goto cx (tgt := 87) dL_acts_120 ?_
            refine Z.locs (ih _ _ _ (k + 1) _ (by omega) hfr hbd (by omega) (by first | exact has_1 hhs h96 | exact has_2 (by omega) | exact has_3 hhs h96 (by omega)) hC) ⟨rfl, rfl, rfl, rfl, rfl, rfl, rfl, rfl, trivial⟩
  have L79 : ∀ (fr bd : Int) (G1 : Wd), (0 ≤ fr ∧ fr ≤ 5001) → ((bd = 1 ∧ (fr < 1 ∨ 4999 < fr)) ∨ (bd = 0 ∧ 1 ≤ fr ∧ fr ≤ 4999)) → (CRel G1 A) → Z p l e (zr 7 176) s m args below meth c 11 0 0 E (Qi_ E below args s (fun z G' => z = 1 ∧ ∃ B, CRel G' B ∧ AOk B ∧ Nx A B)) G1 79 [some (.ref (E.1 0)), some (.int (iN x)), some (.int (iN y)), none, some (.int (iN (A.1.2.1.length : Int))), some (.int (iN fr)), none, none, none, none, none] [.int (iN bd)] := by
    intro fr bd G1 hfr hbd hC
    refine z_istore cx dL_acts_79 ?_
    refine z_iconst cx dL_acts_81 ?_
    refine z_istore cx dL_acts_82 ?_
    refine z_iconst cx dL_acts_84 ?_
    refine z_istore cx dL_acts_85 ?_
    refine Z.locs (L87 _ _ _ _ (0) _ (Nat.lt_succ_self _) hfr hbd (Nat.zero_le _) (has_0 _ _) hC) ⟨rfl, rfl, rfl, rfl, rfl, rfl, rfl, rfl, trivial⟩
  have L58 : ∀ (fr : Int) (G1 : Wd), (0 ≤ fr ∧ fr ≤ 5001) → (CRel G1 A) → Z p l e (zr 7 176) s m args below meth c 11 0 0 E (Qi_ E below args s (fun z G' => z = 1 ∧ ∃ B, CRel G' B ∧ AOk B ∧ Nx A B)) G1 58 [some (.ref (E.1 0)), some (.int (iN x)), some (.int (iN y)), none, some (.int (iN (A.1.2.1.length : Int))), none, none, none, none, none, none] [.int (iN fr)] := by
    intro fr G1 hfr hC
    refine z_istore cx dL_acts_58 ?_
    refine z_iload cx dL_acts_60 rfl ?_
    refine z_iconst cx dL_acts_62 ?_
    refine z_icmp_lt cx (tgt := 74) dL_acts_63 (fun h63 => ?_) (fun h63 => ?_)
    · skip
      refine z_iconst cx dL_acts_74 ?_
      refine z_goto cx (tgt := 79) dL_acts_75 ?_
      refine Z.locs (L79 _ _ _ hfr (by omega) hC) ⟨rfl, rfl, rfl, rfl, rfl, trivial⟩
    · skip
      refine z_iload cx dL_acts_66 rfl ?_
      refine z_sipush cx dL_acts_68 ?_
      refine z_icmp_le cx (tgt := 78) dL_acts_71 (fun h71 => ?_) (fun h71 => ?_)
      · skip
        refine z_iconst cx dL_acts_78 ?_
        refine Z.locs (L79 _ _ _ hfr (by omega) hC) ⟨rfl, rfl, rfl, rfl, rfl, trivial⟩
      · skip
        refine z_iconst cx dL_acts_74 ?_
        refine z_goto cx (tgt := 79) dL_acts_75 ?_
        refine Z.locs (L79 _ _ _ hfr (by omega) hC) ⟨rfl, rfl, rfl, rfl, rfl, trivial⟩
  refine z_iload_n cx dL_acts_0 rfl ?_
  refine z_bipush cx dL_acts_1 ?_
  refine z_si cx (c_L_low (by omega)) rfl ms_L_low ml_L_58 dL_acts_3 (fun z3 G3 hz3 => ?_)
  obtain ⟨hq3, hl3, hu3, hG⟩ := hz3
  subst hG
  refine z_istore_n cx dL_acts_6 ?_
  refine z_aload_n cx dL_acts_7 rfl ?_
  refine z_vi cx (c_X4_cuts hC hA) rfl mv_X4_cuts ml_L_19 (by omega) (co_main E _) rfl dL_acts_8 (fun z8 G8 hz8 => ?_)
  obtain ⟨hq, hC, -⟩ := hz8
  subst hq
  refine z_istore cx dL_acts_11 ?_
  refine z_iload_n cx dL_acts_13 rfl ?_
  refine z_bipush cx dL_acts_14 ?_
  refine z_icmp_ge cx (tgt := 25) dL_acts_16 (fun h16 => ?_) (fun h16 => ?_)
  · skip
    refine z_iload_n cx dL_acts_25 rfl ?_
    refine z_bipush cx dL_acts_26 ?_
    refine z_icmp_ge cx (tgt := 197) dL_acts_28 (fun h28 => ?_) (fun h28 => ?_)
    · skip
      refine z_iload_n cx dL_acts_197 rfl ?_
      refine z_bipush cx dL_acts_198 ?_
      refine z_icmp_ne cx (tgt := 282) dL_acts_200 (fun h200 => ?_) (fun h200 => ?_)
      · skip
        refine z_iload_n cx dL_acts_282 rfl ?_
        refine z_bipush cx dL_acts_283 ?_
        refine z_icmp_ge cx (tgt := 518) dL_acts_285 (fun h285 => ?_) (fun h285 => ?_)
        · skip
          refine z_iload_n cx dL_acts_518 rfl ?_
          refine z_bipush cx dL_acts_519 ?_
          refine z_icmp_ge cx (tgt := 579) dL_acts_521 (fun h521 => ?_) (fun h521 => ?_)
          · skip
            refine z_aload_n cx dL_acts_579 rfl ?_
            refine z_iload_n cx dL_acts_580 rfl ?_
            refine z_bipush cx dL_acts_581 ?_
            refine z_icmp_ge cx (tgt := 590) dL_acts_583 (fun h583 => ?_) (fun h583 => ?_)
            · skip
              refine z_iload_n cx dL_acts_590 rfl ?_
              refine z_bipush cx dL_acts_591 ?_
              refine z_icmp_ge cx (tgt := 600) dL_acts_593 (fun h593 => ?_) (fun h593 => ?_)
              · skip
                refine z_iload_n cx dL_acts_600 rfl ?_
                refine z_bipush cx dL_acts_601 ?_
                refine z_icmp_ge cx (tgt := 610) dL_acts_603 (fun h603 => ?_) (fun h603 => ?_)
                · skip
                  refine z_iload_n cx dL_acts_610 rfl ?_
                  refine z_bipush cx dL_acts_611 ?_
                  refine z_icmp_ge cx (tgt := 620) dL_acts_613 (fun h613 => ?_) (fun h613 => ?_)
                  · skip
                    refine z_iconst cx dL_acts_620 ?_
                    refine Z.locs (L621 _ _ (by omega) hC) ⟨rfl, rfl, rfl, trivial⟩
                  · skip
                    refine z_iconst cx dL_acts_616 ?_
                    refine z_goto cx (tgt := 621) dL_acts_617 ?_
                    refine Z.locs (L621 _ _ (by omega) hC) ⟨rfl, rfl, rfl, trivial⟩
                · skip
                  refine z_iconst cx dL_acts_606 ?_
                  refine z_goto cx (tgt := 621) dL_acts_607 ?_
                  refine Z.locs (L621 _ _ (by omega) hC) ⟨rfl, rfl, rfl, trivial⟩
              · skip
                refine z_iconst cx dL_acts_596 ?_
                refine z_goto cx (tgt := 621) dL_acts_597 ?_
                refine Z.locs (L621 _ _ (by omega) hC) ⟨rfl, rfl, rfl, trivial⟩
            · skip
              refine z_iconst cx dL_acts_586 ?_
              refine z_goto cx (tgt := 621) dL_acts_587 ?_
              refine Z.locs (L621 _ _ (by omega) hC) ⟨rfl, rfl, rfl, trivial⟩
          · skip
            refine z_aload_n cx dL_acts_524 rfl ?_
            refine z_iconst cx dL_acts_525 ?_
            refine z_vi cx (c_X4_ifSeated hC hA (by omega)) rfl mv_X4_ifSeated ml_L_67 (by omega) (co_main E _) rfl dL_acts_526 (fun z526 G526 hz526 => ?_)
            obtain ⟨hq, hC, -⟩ := hz526
            have hq := hq.trans (ifs_0 A)
            subst hq
            refine z_istore cx dL_acts_529 ?_
            refine z_aload_n cx dL_acts_531 rfl ?_
            refine z_iconst cx dL_acts_532 ?_
            refine z_vi cx (c_X4_ifSeated hC hA (by omega)) rfl mv_X4_ifSeated ml_L_67 (by omega) (co_main E _) rfl dL_acts_533 (fun z533 G533 hz533 => ?_)
            obtain ⟨hq, hC, -⟩ := hz533
            have hq := hq.trans (ifs_1 A)
            subst hq
            refine z_istore cx dL_acts_536 ?_
            refine z_aload_n cx dL_acts_538 rfl ?_
            refine z_iconst cx dL_acts_539 ?_
            refine z_vi cx (c_X4_ifSeated hC hA (by omega)) rfl mv_X4_ifSeated ml_L_67 (by omega) (co_main E _) rfl dL_acts_540 (fun z540 G540 hz540 => ?_)
            obtain ⟨hq, hC, -⟩ := hz540
            have hq := hq.trans (ifs_2 A)
            subst hq
            refine z_istore cx dL_acts_543 ?_
            refine z_aload_n cx dL_acts_545 rfl ?_
            refine z_vi cx (c_X4_seat hC hA) rfl mv_X4_seat ml_L_130 (by omega) (co_main E _) rfl dL_acts_546 (fun z546 G546 hz546 => ?_)
            obtain ⟨hq, hC, -⟩ := hz546
            have hB := ok_seat hA
            obtain ⟨B, hBe⟩ : ∃ B, B = (s_seat A).2 := ⟨_, rfl⟩
            have hN : Nx A B := by rw [hBe]; exact Or.inr rfl
            have hB1 : B.1 = seatF A.1 (A.1.1 1) := by rw [hBe]; rfl
            rw [← hBe] at hC hB
            have hq : z546 = seatC A.1 (A.1.1 1) := hq
            subst hq
            have hsc := cnt_b (fun i => (seatN A.1 (A.1.1 1) A.1.2.2.length).getD i dS ≠ A.1.2.2.getD i dS) A.1.2.2.length
            have hse : seatC A.1 (A.1.1 1) = cnt (fun i => (seatN A.1 (A.1.1 1) A.1.2.2.length).getD i dS ≠ A.1.2.2.getD i dS) A.1.2.2.length := rfl
            have hsl2 : B.1.2.2.length = A.1.2.2.length := by rw [hB1]; exact seatN_len _ _ _
            have hcb := cnt_b (fun i => flH 63 (flt (seatF A.1 (A.1.1 1)) i)) A.1.2.2.length
            have hfb := frS_b hB.1
            rw [hB1] at hfb
            refine z_iload cx dL_acts_549 rfl ?_
            refine z_icmp_ne cx (tgt := 577) dL_acts_551 (fun h551 => ?_) (fun h551 => ?_)
            · skip
              exfalso; omega
            · skip
              refine z_aload_n cx dL_acts_554 rfl ?_
              refine z_iconst cx dL_acts_555 ?_
              refine z_vi cx (c_X4_faulty hC hB (by omega)) rfl mv_X4_faulty ml_L_48 (by omega) (co_main E _) rfl dL_acts_556 (fun z556 G556 hz556 => ?_)
              obtain ⟨hq, hC, -⟩ := hz556
              have hq := hq.trans (fy_0 B)
              rw [hsl2, hB1] at hq
              subst hq
              refine z_iload cx dL_acts_559 rfl ?_
              refine z_icmp_ne cx (tgt := 577) dL_acts_561 (fun h561 => ?_) (fun h561 => ?_)
              · skip
                exfalso; omega
              · skip
                refine z_aload_n cx dL_acts_564 rfl ?_
                refine z_vi cx (c_X4_shown hC hB) rfl mv_X4_shown ml_L_51 (by omega) (co_main E _) rfl dL_acts_565 (fun z565 G565 hz565 => ?_)
                obtain ⟨hq, hC, -⟩ := hz565
                rw [hB1] at hq
                subst hq
                refine z_iload cx dL_acts_568 rfl ?_
                refine z_icmp_ne cx (tgt := 577) dL_acts_570 (fun h570 => ?_) (fun h570 => ?_)
                · skip
                  exfalso; omega
                · skip
                  refine z_iconst cx dL_acts_573 ?_
                  refine z_goto cx (tgt := 578) dL_acts_574 ?_
                  refine z_zret cx dL_acts_578 ?_
                  exact ⟨by omega, _, hC, hB, hN⟩
        · skip
          refine z_iload_n cx dL_acts_288 rfl ?_
          refine z_bipush cx dL_acts_289 ?_
          refine z_si cx (c_L_low (by omega)) rfl ms_L_low ml_L_58 dL_acts_291 (fun z291 G291 hz291 => ?_)
          obtain ⟨hq291, hl291, hu291, hG⟩ := hz291
          subst hG
          refine z_istore cx dL_acts_294 ?_
          refine z_iload cx dL_acts_296 rfl ?_
          refine z_if_eq cx (tgt := 307) dL_acts_298 (fun h298 => ?_) (fun h298 => ?_)
          · skip
            refine z_iconst cx dL_acts_307 ?_
            refine z_goto cx (tgt := 334) dL_acts_308 ?_
            refine Z.locs (L334 _ _ _ (by omega) (by unfold LoP; omega) hC) ⟨rfl, rfl, rfl, rfl, rfl, trivial⟩
          · skip
            refine z_iload cx dL_acts_301 rfl ?_
            refine z_iconst cx dL_acts_303 ?_
            refine z_icmp_ne cx (tgt := 311) dL_acts_304 (fun h304 => ?_) (fun h304 => ?_)
            · skip
              refine z_iload cx dL_acts_311 rfl ?_
              refine z_iconst cx dL_acts_313 ?_
              refine z_icmp_ne cx (tgt := 322) dL_acts_314 (fun h314 => ?_) (fun h314 => ?_)
              · skip
                refine z_iload cx dL_acts_322 rfl ?_
                refine z_iconst cx dL_acts_324 ?_
                refine z_icmp_ne cx (tgt := 333) dL_acts_325 (fun h325 => ?_) (fun h325 => ?_)
                · skip
                  refine z_iconst cx dL_acts_333 ?_
                  refine Z.locs (L334 _ _ _ (by omega) (by unfold LoP; omega) hC) ⟨rfl, rfl, rfl, rfl, rfl, trivial⟩
                · skip
                  refine z_bipush cx dL_acts_328 ?_
                  refine z_goto cx (tgt := 334) dL_acts_330 ?_
                  refine Z.locs (L334 _ _ _ (by omega) (by unfold LoP; omega) hC) ⟨rfl, rfl, rfl, rfl, rfl, trivial⟩
              · skip
                refine z_bipush cx dL_acts_317 ?_
                refine z_goto cx (tgt := 334) dL_acts_319 ?_
                refine Z.locs (L334 _ _ _ (by omega) (by unfold LoP; omega) hC) ⟨rfl, rfl, rfl, rfl, rfl, trivial⟩
            · skip
              refine z_iconst cx dL_acts_307 ?_
              refine z_goto cx (tgt := 334) dL_acts_308 ?_
              refine Z.locs (L334 _ _ _ (by omega) (by unfold LoP; omega) hC) ⟨rfl, rfl, rfl, rfl, rfl, trivial⟩
      · skip
        refine z_iload cx dL_acts_203 rfl ?_
        refine z_if_le cx (tgt := 231) dL_acts_205 (fun h205 => ?_) (fun h205 => ?_)
        · skip
          refine z_iconst cx dL_acts_231 ?_
          refine Z.locs (L232 _ _ (by first | exact Or.inl ⟨rfl, un_0 hA⟩ | exact Or.inr (un_in hA (by omega))) hC) ⟨rfl, rfl, rfl, rfl, trivial⟩
        · skip
          refine z_iload_n cx dL_acts_208 rfl ?_
          refine z_iconst cx dL_acts_209 ?_
          refine z_si cx (c_L_low (by omega)) rfl ms_L_low ml_L_58 dL_acts_210 (fun z210 G210 hz210 => ?_)
          obtain ⟨hq210, hl210, hu210, hG⟩ := hz210
          subst hG
          refine z_if_le cx (tgt := 231) dL_acts_213 (fun h213 => ?_) (fun h213 => ?_)
          · skip
            refine z_iconst cx dL_acts_231 ?_
            refine Z.locs (L232 _ _ (by first | exact Or.inl ⟨rfl, un_0 hA⟩ | exact Or.inr (un_in hA (by omega))) hC) ⟨rfl, rfl, rfl, rfl, trivial⟩
          · skip
            refine z_aload_n cx dL_acts_216 rfl ?_
            refine z_iload_n cx dL_acts_217 rfl ?_
            refine z_iconst cx dL_acts_218 ?_
            refine z_ishr cx dL_acts_219 (fun z219 hs219 => ?_)
            refine z_iload cx dL_acts_220 rfl ?_
            refine z_si cx (c_L_low (by omega)) rfl ms_L_low ml_L_58 dL_acts_222 (fun z222 G222 hz222 => ?_)
            obtain ⟨hq222, hl222, hu222, hG⟩ := hz222
            subst hG
            refine z_vi cx (c_X4_cutAt hC hA (by omega)) rfl mv_X4_cutAt ml_L_23 (by omega) (co_main E _) rfl dL_acts_225 (fun z225 G225 hz225 => ?_)
            obtain ⟨hq, hC, -⟩ := hz225
            have hq := hq.trans (rk_in (by omega))
            subst hq
            refine z_goto cx (tgt := 232) dL_acts_228 ?_
            refine Z.locs (L232 _ _ (by first | exact Or.inl ⟨rfl, un_0 hA⟩ | exact Or.inr (un_in hA (by omega))) hC) ⟨rfl, rfl, rfl, rfl, trivial⟩
    · skip
      refine z_iload_n cx dL_acts_31 rfl ?_
      refine z_iconst cx dL_acts_32 ?_
      refine z_ishr cx dL_acts_33 (fun z33 hs33 => ?_)
      refine z_iconst cx dL_acts_34 ?_
      refine z_si cx (c_L_low (by omega)) rfl ms_L_low ml_L_58 dL_acts_35 (fun z35 G35 hz35 => ?_)
      obtain ⟨hq35, hl35, hu35, hG⟩ := hz35
      subst hG
      refine z_if_ne cx (tgt := 51) dL_acts_38 (fun h38 => ?_) (fun h38 => ?_)
      · skip
        refine z_iload_n cx dL_acts_51 rfl ?_
        refine z_sipush cx dL_acts_52 ?_
        refine z_si cx (c_L_low (by omega)) rfl ms_L_low ml_L_58 dL_acts_55 (fun z55 G55 hz55 => ?_)
        obtain ⟨hq55, hl55, hu55, hG⟩ := hz55
        subst hG
        refine Z.locs (L58 _ _ (by omega) hC) ⟨rfl, rfl, rfl, rfl, trivial⟩
      · skip
        refine z_iload_n cx dL_acts_41 rfl ?_
        refine z_sipush cx dL_acts_42 ?_
        refine z_si cx (c_L_low (by omega)) rfl ms_L_low ml_L_58 dL_acts_45 (fun z45 G45 hz45 => ?_)
        obtain ⟨hq45, hl45, hu45, hG⟩ := hz45
        subst hG
        refine z_goto cx (tgt := 58) dL_acts_48 ?_
        refine Z.locs (L58 _ _ (by omega) hC) ⟨rfl, rfl, rfl, rfl, trivial⟩
  · skip
    refine z_aload_n cx dL_acts_19 rfl ?_
    refine z_iload_n cx dL_acts_20 rfl ?_
    refine z_si cx (c_L_loads (x := y) hC hA) rfl ms_L_loads ml_L_118 dL_acts_21 (fun z21 G21 hz21 => ?_)
    obtain ⟨hq, B, hC, hB, hN⟩ := hz21
    subst hq
    refine z_zret cx dL_acts_24 ?_
    exact ⟨by omega, _, hC, hB, hN⟩
