/-! ===== holds ===== -/
theorem rk_pred {A : Ast} {k : Nat} (h1 : 1 ≤ k) (h : k - 1 < A.1.2.1.length) : r_cutAt A ((k : Int) - 1) = A.1.2.1.getD (k - 1) 0 := by
  rw [rk_in (by omega), show ((k : Int) - 1).toNat = k - 1 by omega]
theorem rk_0 {A : Ast} (h : 0 < A.1.2.1.length) : r_cutAt A 0 = A.1.2.1.getD 0 0 := by
  rw [rk_in (by omega)]
  rfl
theorem rc_0 {A : Ast} {x : Int} (h : 0 ≤ x ∧ x < (A.1.2.2.length : Int)) (hj : 0 < (sb A x).2.2.length) : r_character A x 0 = (sb A x).2.2.getD 0 0 := by
  rw [rc_in h (by omega)]
  rfl
theorem rc_last {A : Ast} {x : Int} (h : 0 ≤ x ∧ x < (A.1.2.2.length : Int)) (hj : 0 < (sb A x).2.2.length) : r_character A x (((sb A x).2.2.length : Int) - 1) = (sb A x).2.2.getD ((sb A x).2.2.length - 1) 0 := by
  rw [rc_in h (by omega), show (((sb A x).2.2.length : Int) - 1).toNat = (sb A x).2.2.length - 1 by omega]
theorem bBl_i {t : List Int} (ht : TxOk t) : bBl t = -6 ∨ (1 ≤ bBl t ∧ bBl t + 1 < (t.length : Int) ∧ t.getD (bBl t).toNat 0 = 32) := by
  rcases bBl_p ht with h | ⟨j, h1, h2, h3, h4⟩
  · exact Or.inl h
  · rw [h3]
    exact Or.inr ⟨by omega, by omega, by rw [Int.toNat_natCast]; exact h4⟩
section ZH2
variable {p : Program} {l : Launch} {e : Env} {s : State} {m : MethodId} {args : Array Value} {below : List Frame} {meth : Method} {c : Code} {own : String} {cc : ByteArray} {nL fr lo ce sl : Nat} {rt : Option FieldType} {E : En}
variable {R : Room} {Q : State → Prop} {G : Wd} {pc : Nat} {vs : List (Option Value)} {st : List Value}
theorem z_ishrE (cx : Cx p s m args meth c own cc nL rt E) {x y : Int32} {z : Int} (hz : x >>> (y &&& 31) = iN z) (hd : decode cc pc = .ok (.ishr, 1)) (K : Z p l e R s m args below meth c nL ce sl E Q G (pc + 1) vs (.int (iN z) :: st)) : Z p l e R s m args below meth c nL ce sl E Q G pc vs (.int y :: .int x :: st) := by
  intro H locs ls hP hS hL
  refine lv_ishr cx.1 cx.2.1 hd ?_
  rw [hz]
  exact K H locs ls hP hS hL
end ZH2
theorem flt_shr (F : Fm) (i : Nat) : iN (flt F i) >>> (iN 3 &&& 31) = iN (((flt F i).toNat / 8 : Nat) : Int) := by
  have hb := flt_b F i
  have q := fl_shr (flt F i).toNat (by omega)
  rwa [show (((flt F i).toNat : Nat) : Int) = flt F i by omega] at q
set_option maxRecDepth 100000 in
set_option maxHeartbeats 4000000 in
theorem c_L_holds {E : En} {G : Wd} {A : Ast} (hC : CRel G A) (hA : AOk A) : Cti E yL_holds cL_holds 18 .boolean 6 146 [.ref (E.1 0)] G (fun z G' => z = 1 ∧ CRel G' A) := by
  obtain ⟨hv0, hv1, hv2, hv3, hv4, hv5a, hv5b⟩ := id hA.1.1
  have hcl := hA.1.2.1.1
  have hsl := hA.1.2.2.1
  refine Cti.mk [some (.ref (E.1 0)), none, none, none, none, none, none, none, none, none, none, none, none, none, none, none, none, none] (by decide) rfl (by intro v hv; simp only [List.mem_cons, List.not_mem_nil, or_false] at hv; subst hv; rfl) (Nat.le_of_ble_eq_true rfl) ?_
  intro p l e s m args below meth c cx
  have L144 : ∀ (n : Nat) (u : Nat) (la fr an on ei : Int) (G1 : Wd), (A.1.2.2.length - u) < n → (u ≤ A.1.2.2.length) → (0 ≤ la ∧ la ≤ 5000 ∧ (u < A.1.2.2.length → la ≤ (sb A (u : Int)).1)) → (fr = (sumN (fun i => (A.1.2.2.getD i dS).2.1 - (A.1.2.2.getD i dS).1) u)) → (an = (cnt (fun i => flH 63 (flt A.1 i)) u)) → (on = (cnt (fun i => flH 1 (flt A.1 i)) u)) → (ei = (cnt (fun i => flH 8 (flt A.1 i)) u)) → (CRel G1 A) → Z p l e (zr 6 146) s m args below meth c 18 0 0 E (Qi_ E below args s (fun z G' => z = 1 ∧ CRel G' A)) G1 144 [some (.ref (E.1 0)), some (.int (iN (A.1.2.2.length : Int))), some (.int (iN la)), some (.int (iN fr)), some (.int (iN an)), some (.int (iN on)), some (.int (iN ei)), some (.int (iN 1)), some (.int (iN (u : Int))), none, none, none, none, none, none, none, none, none] [] := by
    intro n
    induction n with
    | zero =>
      intro u la fr an on ei G1 hmu
      exact absurd hmu (Nat.not_lt_zero _)
    | succ n ih144 =>
      intro u la fr an on ei G1 hmu hu hla hfr han hon hei hC
      have c1 := cnt_b (fun i => flH 63 (flt A.1 i)) u
      have c2 := cnt_b (fun i => flH 1 (flt A.1 i)) u
      have c3 := cnt_b (fun i => flH 8 (flt A.1 i)) u
      have L314 : ∀ (an2 sm : Int) (G1 : Wd), (u < A.1.2.2.length) → (an2 = (cnt (fun i => flH 63 (flt A.1 i)) (u + 1))) → (sm = ((sb A (u : Int)).2.2.length : Int)) → (CRel G1 A) → Z p l e (zr 6 146) s m args below meth c 18 0 0 E (Qi_ E below args s (fun z G' => z = 1 ∧ CRel G' A)) G1 314 [some (.ref (E.1 0)), some (.int (iN (A.1.2.2.length : Int))), some (.int (iN la)), some (.int (iN fr)), some (.int (iN an2)), some (.int (iN on)), some (.int (iN ei)), some (.int (iN 1)), some (.int (iN (u : Int))), some (.int (iN (sb A (u : Int)).1)), some (.int (iN (sb A (u : Int)).2.1)), some (.int (iN ((sb A (u : Int)).2.2.length : Int))), some (.int (iN (need A.1 (sb A (u : Int))))), some (.int (iN (bBl (sb A (u : Int)).2.2))), some (.int (iN sm)), none, none, none] [] := by
        intro an2 sm G1 hul han2 hsm hC
        have hS := sb_ok hA (x := (u : Int)) (by omega)
        obtain ⟨hs0, hs1, hs2, hst⟩ := id hS
        obtain ⟨ht1, ht40, htc, ht0, htl, -⟩ := id hst
        have hnb := need_b hA.1.1 hst
        have hni := need_is (S := sb A (u : Int)) hA.1.1
        have hbl := bBl_i hst
        have hfb := flt_b A.1 u
        have hla2 := hla.2.2 hul
        have hm1 : 0 ≤ need A.1 (sb A (u : Int)) * A.1.1 0 ∧ need A.1 (sb A (u : Int)) * A.1.1 0 ≤ 1100 * 40 := ⟨Int.mul_nonneg (by omega) (by omega), Int.mul_le_mul (by omega) (by omega) (by omega) (by omega)⟩
        have hm2 : 0 ≤ (need A.1 (sb A (u : Int)) - 1) * A.1.1 0 ∧ (need A.1 (sb A (u : Int)) - 1) * A.1.1 0 ≤ 1100 * 40 := ⟨Int.mul_nonneg (by omega) (by omega), Int.mul_le_mul (by omega) (by omega) (by omega) (by omega)⟩
        refine z_iload cx dL_holds_314 rfl ?_
        refine z_aload_n cx dL_holds_316 rfl ?_
        refine z_iload cx dL_holds_317 rfl ?_
        refine z_si cx (c_L_faults hC hA (by omega)) rfl ms_L_faults ml_L_41 dL_holds_319 (fun z319 G319 hz319 => ?_)
        obtain ⟨hq, hC⟩ := hz319
        rw [Int.toNat_natCast] at hq
        subst hq
        refine z_iconst cx dL_holds_322 ?_
        refine z_iand cx dL_holds_323 ?_
        refine z_iadd cx dL_holds_324 ?_
        refine z_istore cx dL_holds_325 ?_
        refine z_iload cx dL_holds_327 rfl ?_
        refine z_aload_n cx dL_holds_329 rfl ?_
        refine z_iload cx dL_holds_330 rfl ?_
        refine z_si cx (c_L_faults hC hA (by omega)) rfl ms_L_faults ml_L_41 dL_holds_332 (fun z332 G332 hz332 => ?_)
        obtain ⟨hq, hC⟩ := hz332
        rw [Int.toNat_natCast] at hq
        subst hq
        refine z_iconst cx dL_holds_335 ?_
        refine z_ishrE cx (x := iN (flt A.1 u)) (y := iN 3) (z := (((flt A.1 u).toNat / 8 : Nat) : Int)) (flt_shr A.1 u) dL_holds_336 ?_
        refine z_iconst cx dL_holds_337 ?_
        refine z_iand cx dL_holds_338 ?_
        refine z_iadd cx dL_holds_339 ?_
        refine z_istore cx dL_holds_340 ?_
        refine z_iload cx dL_holds_342 rfl ?_
        refine z_if_eq cx (tgt := 572) dL_holds_344 (fun h344 => ?_) (fun h344 => ?_)
        · skip
          exfalso; omega
        · skip
          refine z_iload cx dL_holds_347 rfl ?_
          refine z_iload_n cx dL_holds_349 rfl ?_
          refine z_icmp_lt cx (tgt := 572) dL_holds_350 (fun h350 => ?_) (fun h350 => ?_)
          · skip
            exfalso; omega
          · skip
            refine z_iload cx dL_holds_353 rfl ?_
            refine z_iload cx dL_holds_355 rfl ?_
            refine z_icmp_le cx (tgt := 572) dL_holds_357 (fun h357 => ?_) (fun h357 => ?_)
            · skip
              exfalso; omega
            · skip
              refine z_iload cx dL_holds_360 rfl ?_
              refine z_sipush cx dL_holds_362 ?_
              refine z_icmp_gt cx (tgt := 572) dL_holds_365 (fun h365 => ?_) (fun h365 => ?_)
              · skip
                exfalso; omega
              · skip
                refine z_iload cx dL_holds_368 rfl ?_
                refine z_iconst cx dL_holds_370 ?_
                refine z_icmp_lt cx (tgt := 572) dL_holds_371 (fun h371 => ?_) (fun h371 => ?_)
                · skip
                  exfalso; omega
                · skip
                  refine z_iload cx dL_holds_374 rfl ?_
                  refine z_bipush cx dL_holds_376 ?_
                  refine z_icmp_gt cx (tgt := 572) dL_holds_378 (fun h378 => ?_) (fun h378 => ?_)
                  · skip
                    exfalso; omega
                  · skip
                    refine z_iload cx dL_holds_381 rfl ?_
                    refine z_iload cx dL_holds_383 rfl ?_
                    refine z_icmp_ne cx (tgt := 572) dL_holds_385 (fun h385 => ?_) (fun h385 => ?_)
                    · skip
                      exfalso; omega
                    · skip
                      refine z_aload_n cx dL_holds_388 rfl ?_
                      refine z_iload cx dL_holds_389 rfl ?_
                      refine z_iconst cx dL_holds_391 ?_
                      refine z_vi cx (c_X4_character hC hA (by omega) (by omega)) rfl mv_X4_character ml_L_33 (by omega) (co_main E _) rfl dL_holds_392 (fun z392 G392 hz392 => ?_)
                      obtain ⟨hq, hC, -⟩ := hz392
                      have hq := hq.trans (rc_0 (by omega) (by omega))
                      subst hq
                      have hcb1 := htc 0 (by omega)
                      refine z_bipush cx dL_holds_395 ?_
                      refine z_icmp_eq cx (tgt := 572) dL_holds_397 (fun h397 => ?_) (fun h397 => ?_)
                      · skip
                        exfalso; omega
                      · skip
                        refine z_aload_n cx dL_holds_400 rfl ?_
                        refine z_iload cx dL_holds_401 rfl ?_
                        refine z_iload cx dL_holds_403 rfl ?_
                        refine z_iconst cx dL_holds_405 ?_
                        refine z_isub cx dL_holds_406 ?_
                        refine z_vi cx (c_X4_character hC hA (by omega) (by omega)) rfl mv_X4_character ml_L_33 (by omega) (co_main E _) rfl dL_holds_407 (fun z407 G407 hz407 => ?_)
                        obtain ⟨hq, hC, -⟩ := hz407
                        have hq := hq.trans (rc_last (by omega) (by omega))
                        subst hq
                        have hcb2 := htc ((sb A (u : Int)).2.2.length - 1) (by omega)
                        refine z_bipush cx dL_holds_410 ?_
                        refine z_icmp_eq cx (tgt := 572) dL_holds_412 (fun h412 => ?_) (fun h412 => ?_)
                        · skip
                          exfalso; omega
                        · skip
                          refine z_aload_n cx dL_holds_415 rfl ?_
                          refine z_iload cx dL_holds_416 rfl ?_
                          refine z_iload cx dL_holds_418 rfl ?_
                          refine z_vi cx (c_X4_character hC hA (by omega) (by omega)) rfl mv_X4_character ml_L_33 (by omega) (co_main E _) rfl dL_holds_420 (fun z420 G420 hz420 => ?_)
                          obtain ⟨hq, hC, -⟩ := hz420
                          have hq := hq.trans (rc_end (by omega) rfl)
                          subst hq
                          refine z_bipush cx dL_holds_423 ?_
                          refine z_icmp_ne cx (tgt := 572) dL_holds_425 (fun h425 => ?_) (fun h425 => ?_)
                          · skip
                            exfalso; omega
                          · skip
                            refine z_aload_n cx dL_holds_428 rfl ?_
                            refine z_iload cx dL_holds_429 rfl ?_
                            refine z_iconst cx dL_holds_431 ?_
                            refine z_vi cx (c_X4_character hC hA (by omega) (by omega)) rfl mv_X4_character ml_L_33 (by omega) (co_main E _) rfl dL_holds_432 (fun z432 G432 hz432 => ?_)
                            obtain ⟨hq, hC, -⟩ := hz432
                            have hq := hq.trans (rc_neg (by omega) (by decide))
                            subst hq
                            refine z_bipush cx dL_holds_435 ?_
                            refine z_icmp_ne cx (tgt := 572) dL_holds_437 (fun h437 => ?_) (fun h437 => ?_)
                            · skip
                              exfalso; omega
                            · skip
                              refine z_aload_n cx dL_holds_440 rfl ?_
                              refine z_iload cx dL_holds_441 rfl ?_
                              refine z_iconst cx dL_holds_443 ?_
                              refine z_vi cx (c_X4_subtitle hC hA (by omega) (by omega)) rfl mv_X4_subtitle ml_L_29 (by omega) (co_main E _) rfl dL_holds_444 (fun z444 G444 hz444 => ?_)
                              obtain ⟨hq, hC, -⟩ := hz444
                              have hq := hq.trans ((rs_4 (by omega)).trans (by rw [Int.toNat_natCast]))
                              subst hq
                              refine z_aload_n cx dL_holds_447 rfl ?_
                              refine z_iload cx dL_holds_448 rfl ?_
                              refine z_si cx (c_L_faults hC hA (by omega)) rfl ms_L_faults ml_L_41 dL_holds_450 (fun z450 G450 hz450 => ?_)
                              obtain ⟨hq, hC⟩ := hz450
                              rw [Int.toNat_natCast] at hq
                              subst hq
                              refine z_icmp_ne cx (tgt := 572) dL_holds_453 (fun h453 => ?_) (fun h453 => ?_)
                              · skip
                                exfalso; omega
                              · skip
                                refine z_iload cx dL_holds_456 rfl ?_
                                refine z_aload_n cx dL_holds_458 rfl ?_
                                refine z_iconst cx dL_holds_459 ?_
                                refine z_vi cx (c_X4_setting hC hA (by omega)) rfl mv_X4_setting ml_L_13 (by omega) (co_main E _) rfl dL_holds_460 (fun z460 G460 hz460 => ?_)
                                obtain ⟨hq, hC, -⟩ := hz460
                                have hq := hq.trans (rv_in 2 rfl (by omega))
                                subst hq
                                refine z_icmp_lt cx (tgt := 572) dL_holds_463 (fun h463 => ?_) (fun h463 => ?_)
                                · skip
                                  exfalso; omega
                                · skip
                                  refine z_iload cx dL_holds_466 rfl ?_
                                  refine z_aload_n cx dL_holds_468 rfl ?_
                                  refine z_iconst cx dL_holds_469 ?_
                                  refine z_vi cx (c_X4_setting hC hA (by omega)) rfl mv_X4_setting ml_L_13 (by omega) (co_main E _) rfl dL_holds_470 (fun z470 G470 hz470 => ?_)
                                  obtain ⟨hq, hC, -⟩ := hz470
                                  have hq := hq.trans (rv_in 0 rfl (by omega))
                                  subst hq
                                  refine z_imul cx dL_holds_473 ?_
                                  refine z_bipush cx dL_holds_474 ?_
                                  refine z_iload cx dL_holds_476 rfl ?_
                                  refine z_imul cx dL_holds_478 ?_
                                  refine z_icmp_lt cx (tgt := 572) dL_holds_479 (fun h479 => ?_) (fun h479 => ?_)
                                  · skip
                                    exfalso; omega
                                  · skip
                                    refine z_iload cx dL_holds_482 rfl ?_
                                    refine z_aload_n cx dL_holds_484 rfl ?_
                                    refine z_iconst cx dL_holds_485 ?_
                                    refine z_vi cx (c_X4_setting hC hA (by omega)) rfl mv_X4_setting ml_L_13 (by omega) (co_main E _) rfl dL_holds_486 (fun z486 G486 hz486 => ?_)
                                    obtain ⟨hq, hC, -⟩ := hz486
                                    have hq := hq.trans (rv_in 2 rfl (by omega))
                                    subst hq
                                    refine z_icmp_eq cx (tgt := 510) dL_holds_489 (fun h489 => ?_) (fun h489 => ?_)
                                    · skip
                                      refine z_iload cx dL_holds_510 rfl ?_
                                      refine z_bipush cx dL_holds_512 ?_
                                      refine z_icmp_eq cx (tgt := 544) dL_holds_514 (fun h514 => ?_) (fun h514 => ?_)
                                      · skip
                                        refine z_aload_n cx dL_holds_544 rfl ?_
                                        refine z_iload cx dL_holds_545 rfl ?_
                                        refine z_vi cx (c_X4_at hC hA (by omega)) rfl mv_X4_at ml_L_45 (by omega) (co_main E _) rfl dL_holds_547 (fun z547 G547 hz547 => ?_)
                                        obtain ⟨hq, hC, -⟩ := hz547
                                        have hq := hq.trans (rt_in hA (x := (u : Int)) (by omega) ⟨by omega, by omega⟩)
                                        subst hq
                                        refine z_iload cx dL_holds_550 rfl ?_
                                        refine z_icmp_ne cx (tgt := 572) dL_holds_552 (fun h552 => ?_) (fun h552 => ?_)
                                        · skip
                                          exfalso; omega
                                        · skip
                                          refine z_aload_n cx dL_holds_555 rfl ?_
                                          refine z_iload cx dL_holds_556 rfl ?_
                                          refine z_iconst cx dL_holds_558 ?_
                                          refine z_isub cx dL_holds_559 ?_
                                          refine z_vi cx (c_X4_at hC hA (by omega)) rfl mv_X4_at ml_L_45 (by omega) (co_main E _) rfl dL_holds_560 (fun z560 G560 hz560 => ?_)
                                          obtain ⟨hq, hC, -⟩ := hz560
                                          have hq := hq.trans (rt_in hA (x := (u : Int)) (by omega) ⟨by omega, by omega⟩)
                                          subst hq
                                          refine z_iload cx dL_holds_563 rfl ?_
                                          refine z_icmp_ne cx (tgt := 572) dL_holds_565 (fun h565 => ?_) (fun h565 => ?_)
                                          · skip
                                            exfalso; omega
                                          · skip
                                            refine z_iconst cx dL_holds_568 ?_
                                            refine z_goto cx (tgt := 573) dL_holds_569 ?_
                                            refine z_istore cx dL_holds_573 ?_
                                            refine z_iload cx dL_holds_575 rfl ?_
                                            refine z_istore_n cx dL_holds_577 ?_
                                            refine z_iload_n cx dL_holds_578 rfl ?_
                                            refine z_iload cx dL_holds_579 rfl ?_
                                            refine z_iload cx dL_holds_581 rfl ?_
                                            refine z_isub cx dL_holds_583 ?_
                                            refine z_iadd cx dL_holds_584 ?_
                                            refine z_istore_n cx dL_holds_585 ?_
                                            refine z_iinc cx dL_holds_586 rfl ?_
                                            refine z_goto cx (tgt := 144) dL_holds_589 ?_
                                            refine Z.locs (ih144 (u + 1) _ _ _ _ _ _ (by omega) (by omega) ⟨by omega, by omega, fun w => sb_next hA (x := (u : Int)) (by omega)⟩ (by rw [hfr]; exact fr_step A u) han2 (by rw [hon]; exact fl_one _ _) (by rw [hei]; exact fl_eight _ _) hC) ⟨rfl, rfl, rfl, rfl, rfl, rfl, rfl, rfl, rfl, trivial⟩
                                      · skip
                                        refine z_iload cx dL_holds_517 rfl ?_
                                        refine z_if_le cx (tgt := 572) dL_holds_519 (fun h519 => ?_) (fun h519 => ?_)
                                        · skip
                                          exfalso; omega
                                        · skip
                                          refine z_iload cx dL_holds_522 rfl ?_
                                          refine z_iload cx dL_holds_524 rfl ?_
                                          refine z_iconst cx dL_holds_526 ?_
                                          refine z_isub cx dL_holds_527 ?_
                                          refine z_icmp_ge cx (tgt := 572) dL_holds_528 (fun h528 => ?_) (fun h528 => ?_)
                                          · skip
                                            exfalso; omega
                                          · skip
                                            refine z_aload_n cx dL_holds_531 rfl ?_
                                            refine z_iload cx dL_holds_532 rfl ?_
                                            refine z_iload cx dL_holds_534 rfl ?_
                                            refine z_vi cx (c_X4_character hC hA (by omega) (by omega)) rfl mv_X4_character ml_L_33 (by omega) (co_main E _) rfl dL_holds_536 (fun z536 G536 hz536 => ?_)
                                            obtain ⟨hq, hC, -⟩ := hz536
                                            have hq := hq.trans (rc_in (by omega) (by omega))
                                            subst hq
                                            have hcb3 := htc (bBl (sb A (u : Int)).2.2).toNat (by omega)
                                            refine z_bipush cx dL_holds_539 ?_
                                            refine z_icmp_ne cx (tgt := 572) dL_holds_541 (fun h541 => ?_) (fun h541 => ?_)
                                            · skip
                                              exfalso; omega
                                            · skip
                                              refine z_aload_n cx dL_holds_544 rfl ?_
                                              refine z_iload cx dL_holds_545 rfl ?_
                                              refine z_vi cx (c_X4_at hC hA (by omega)) rfl mv_X4_at ml_L_45 (by omega) (co_main E _) rfl dL_holds_547 (fun z547 G547 hz547 => ?_)
                                              obtain ⟨hq, hC, -⟩ := hz547
                                              have hq := hq.trans (rt_in hA (x := (u : Int)) (by omega) ⟨by omega, by omega⟩)
                                              subst hq
                                              refine z_iload cx dL_holds_550 rfl ?_
                                              refine z_icmp_ne cx (tgt := 572) dL_holds_552 (fun h552 => ?_) (fun h552 => ?_)
                                              · skip
                                                exfalso; omega
                                              · skip
                                                refine z_aload_n cx dL_holds_555 rfl ?_
                                                refine z_iload cx dL_holds_556 rfl ?_
                                                refine z_iconst cx dL_holds_558 ?_
                                                refine z_isub cx dL_holds_559 ?_
                                                refine z_vi cx (c_X4_at hC hA (by omega)) rfl mv_X4_at ml_L_45 (by omega) (co_main E _) rfl dL_holds_560 (fun z560 G560 hz560 => ?_)
                                                obtain ⟨hq, hC, -⟩ := hz560
                                                have hq := hq.trans (rt_in hA (x := (u : Int)) (by omega) ⟨by omega, by omega⟩)
                                                subst hq
                                                refine z_iload cx dL_holds_563 rfl ?_
                                                refine z_icmp_ne cx (tgt := 572) dL_holds_565 (fun h565 => ?_) (fun h565 => ?_)
                                                · skip
                                                  exfalso; omega
                                                · skip
                                                  refine z_iconst cx dL_holds_568 ?_
                                                  refine z_goto cx (tgt := 573) dL_holds_569 ?_
                                                  refine z_istore cx dL_holds_573 ?_
                                                  refine z_iload cx dL_holds_575 rfl ?_
                                                  refine z_istore_n cx dL_holds_577 ?_
                                                  refine z_iload_n cx dL_holds_578 rfl ?_
                                                  refine z_iload cx dL_holds_579 rfl ?_
                                                  refine z_iload cx dL_holds_581 rfl ?_
                                                  refine z_isub cx dL_holds_583 ?_
                                                  refine z_iadd cx dL_holds_584 ?_
                                                  refine z_istore_n cx dL_holds_585 ?_
                                                  refine z_iinc cx dL_holds_586 rfl ?_
                                                  refine z_goto cx (tgt := 144) dL_holds_589 ?_
                                                  refine Z.locs (ih144 (u + 1) _ _ _ _ _ _ (by omega) (by omega) ⟨by omega, by omega, fun w => sb_next hA (x := (u : Int)) (by omega)⟩ (by rw [hfr]; exact fr_step A u) han2 (by rw [hon]; exact fl_one _ _) (by rw [hei]; exact fl_eight _ _) hC) ⟨rfl, rfl, rfl, rfl, rfl, rfl, rfl, rfl, rfl, trivial⟩
                                    · skip
                                      refine z_iload cx dL_holds_492 rfl ?_
                                      refine z_iconst cx dL_holds_494 ?_
                                      refine z_isub cx dL_holds_495 ?_
                                      refine z_aload_n cx dL_holds_496 rfl ?_
                                      refine z_iconst cx dL_holds_497 ?_
                                      refine z_vi cx (c_X4_setting hC hA (by omega)) rfl mv_X4_setting ml_L_13 (by omega) (co_main E _) rfl dL_holds_498 (fun z498 G498 hz498 => ?_)
                                      obtain ⟨hq, hC, -⟩ := hz498
                                      have hq := hq.trans (rv_in 0 rfl (by omega))
                                      subst hq
                                      refine z_imul cx dL_holds_501 ?_
                                      refine z_bipush cx dL_holds_502 ?_
                                      refine z_iload cx dL_holds_504 rfl ?_
                                      refine z_imul cx dL_holds_506 ?_
                                      refine z_icmp_ge cx (tgt := 572) dL_holds_507 (fun h507 => ?_) (fun h507 => ?_)
                                      · skip
                                        exfalso; omega
                                      · skip
                                        refine z_iload cx dL_holds_510 rfl ?_
                                        refine z_bipush cx dL_holds_512 ?_
                                        refine z_icmp_eq cx (tgt := 544) dL_holds_514 (fun h514 => ?_) (fun h514 => ?_)
                                        · skip
                                          refine z_aload_n cx dL_holds_544 rfl ?_
                                          refine z_iload cx dL_holds_545 rfl ?_
                                          refine z_vi cx (c_X4_at hC hA (by omega)) rfl mv_X4_at ml_L_45 (by omega) (co_main E _) rfl dL_holds_547 (fun z547 G547 hz547 => ?_)
                                          obtain ⟨hq, hC, -⟩ := hz547
                                          have hq := hq.trans (rt_in hA (x := (u : Int)) (by omega) ⟨by omega, by omega⟩)
                                          subst hq
                                          refine z_iload cx dL_holds_550 rfl ?_
                                          refine z_icmp_ne cx (tgt := 572) dL_holds_552 (fun h552 => ?_) (fun h552 => ?_)
                                          · skip
                                            exfalso; omega
                                          · skip
                                            refine z_aload_n cx dL_holds_555 rfl ?_
                                            refine z_iload cx dL_holds_556 rfl ?_
                                            refine z_iconst cx dL_holds_558 ?_
                                            refine z_isub cx dL_holds_559 ?_
                                            refine z_vi cx (c_X4_at hC hA (by omega)) rfl mv_X4_at ml_L_45 (by omega) (co_main E _) rfl dL_holds_560 (fun z560 G560 hz560 => ?_)
                                            obtain ⟨hq, hC, -⟩ := hz560
                                            have hq := hq.trans (rt_in hA (x := (u : Int)) (by omega) ⟨by omega, by omega⟩)
                                            subst hq
                                            refine z_iload cx dL_holds_563 rfl ?_
                                            refine z_icmp_ne cx (tgt := 572) dL_holds_565 (fun h565 => ?_) (fun h565 => ?_)
                                            · skip
                                              exfalso; omega
                                            · skip
                                              refine z_iconst cx dL_holds_568 ?_
                                              refine z_goto cx (tgt := 573) dL_holds_569 ?_
                                              refine z_istore cx dL_holds_573 ?_
                                              refine z_iload cx dL_holds_575 rfl ?_
                                              refine z_istore_n cx dL_holds_577 ?_
                                              refine z_iload_n cx dL_holds_578 rfl ?_
                                              refine z_iload cx dL_holds_579 rfl ?_
                                              refine z_iload cx dL_holds_581 rfl ?_
                                              refine z_isub cx dL_holds_583 ?_
                                              refine z_iadd cx dL_holds_584 ?_
                                              refine z_istore_n cx dL_holds_585 ?_
                                              refine z_iinc cx dL_holds_586 rfl ?_
                                              refine z_goto cx (tgt := 144) dL_holds_589 ?_
                                              refine Z.locs (ih144 (u + 1) _ _ _ _ _ _ (by omega) (by omega) ⟨by omega, by omega, fun w => sb_next hA (x := (u : Int)) (by omega)⟩ (by rw [hfr]; exact fr_step A u) han2 (by rw [hon]; exact fl_one _ _) (by rw [hei]; exact fl_eight _ _) hC) ⟨rfl, rfl, rfl, rfl, rfl, rfl, rfl, rfl, rfl, trivial⟩
                                        · skip
                                          refine z_iload cx dL_holds_517 rfl ?_
                                          refine z_if_le cx (tgt := 572) dL_holds_519 (fun h519 => ?_) (fun h519 => ?_)
                                          · skip
                                            exfalso; omega
                                          · skip
                                            refine z_iload cx dL_holds_522 rfl ?_
                                            refine z_iload cx dL_holds_524 rfl ?_
                                            refine z_iconst cx dL_holds_526 ?_
                                            refine z_isub cx dL_holds_527 ?_
                                            refine z_icmp_ge cx (tgt := 572) dL_holds_528 (fun h528 => ?_) (fun h528 => ?_)
                                            · skip
                                              exfalso; omega
                                            · skip
                                              refine z_aload_n cx dL_holds_531 rfl ?_
                                              refine z_iload cx dL_holds_532 rfl ?_
                                              refine z_iload cx dL_holds_534 rfl ?_
                                              refine z_vi cx (c_X4_character hC hA (by omega) (by omega)) rfl mv_X4_character ml_L_33 (by omega) (co_main E _) rfl dL_holds_536 (fun z536 G536 hz536 => ?_)
                                              obtain ⟨hq, hC, -⟩ := hz536
                                              have hq := hq.trans (rc_in (by omega) (by omega))
                                              subst hq
                                              have hcb3 := htc (bBl (sb A (u : Int)).2.2).toNat (by omega)
                                              refine z_bipush cx dL_holds_539 ?_
                                              refine z_icmp_ne cx (tgt := 572) dL_holds_541 (fun h541 => ?_) (fun h541 => ?_)
                                              · skip
                                                exfalso; omega
                                              · skip
                                                refine z_aload_n cx dL_holds_544 rfl ?_
                                                refine z_iload cx dL_holds_545 rfl ?_
                                                refine z_vi cx (c_X4_at hC hA (by omega)) rfl mv_X4_at ml_L_45 (by omega) (co_main E _) rfl dL_holds_547 (fun z547 G547 hz547 => ?_)
                                                obtain ⟨hq, hC, -⟩ := hz547
                                                have hq := hq.trans (rt_in hA (x := (u : Int)) (by omega) ⟨by omega, by omega⟩)
                                                subst hq
                                                refine z_iload cx dL_holds_550 rfl ?_
                                                refine z_icmp_ne cx (tgt := 572) dL_holds_552 (fun h552 => ?_) (fun h552 => ?_)
                                                · skip
                                                  exfalso; omega
                                                · skip
                                                  refine z_aload_n cx dL_holds_555 rfl ?_
                                                  refine z_iload cx dL_holds_556 rfl ?_
                                                  refine z_iconst cx dL_holds_558 ?_
                                                  refine z_isub cx dL_holds_559 ?_
                                                  refine z_vi cx (c_X4_at hC hA (by omega)) rfl mv_X4_at ml_L_45 (by omega) (co_main E _) rfl dL_holds_560 (fun z560 G560 hz560 => ?_)
                                                  obtain ⟨hq, hC, -⟩ := hz560
                                                  have hq := hq.trans (rt_in hA (x := (u : Int)) (by omega) ⟨by omega, by omega⟩)
                                                  subst hq
                                                  refine z_iload cx dL_holds_563 rfl ?_
                                                  refine z_icmp_ne cx (tgt := 572) dL_holds_565 (fun h565 => ?_) (fun h565 => ?_)
                                                  · skip
                                                    exfalso; omega
                                                  · skip
                                                    refine z_iconst cx dL_holds_568 ?_
                                                    refine z_goto cx (tgt := 573) dL_holds_569 ?_
                                                    refine z_istore cx dL_holds_573 ?_
                                                    refine z_iload cx dL_holds_575 rfl ?_
                                                    refine z_istore_n cx dL_holds_577 ?_
                                                    refine z_iload_n cx dL_holds_578 rfl ?_
                                                    refine z_iload cx dL_holds_579 rfl ?_
                                                    refine z_iload cx dL_holds_581 rfl ?_
                                                    refine z_isub cx dL_holds_583 ?_
                                                    refine z_iadd cx dL_holds_584 ?_
                                                    refine z_istore_n cx dL_holds_585 ?_
                                                    refine z_iinc cx dL_holds_586 rfl ?_
                                                    refine z_goto cx (tgt := 144) dL_holds_589 ?_
                                                    refine Z.locs (ih144 (u + 1) _ _ _ _ _ _ (by omega) (by omega) ⟨by omega, by omega, fun w => sb_next hA (x := (u : Int)) (by omega)⟩ (by rw [hfr]; exact fr_step A u) han2 (by rw [hon]; exact fl_one _ _) (by rw [hei]; exact fl_eight _ _) hC) ⟨rfl, rfl, rfl, rfl, rfl, rfl, rfl, rfl, rfl, trivial⟩
      have L210 : ∀ (n : Nat) (k : Nat) (sm a : Int) (G1 : Wd), ((lns (sb A (u : Int)).2.2 (A.1.1 4)).length + 1 - k) < n → (u < A.1.2.2.length) → (k ≤ (lns (sb A (u : Int)).2.2 (A.1.1 4)).length) → (0 ≤ a ∧ a ≤ 41) → (sm = a - 1) → (LnI (sb A (u : Int)).2.2 (A.1.1 4) k a.toNat) → (CRel G1 A) → Z p l e (zr 6 146) s m args below meth c 18 0 0 E (Qi_ E below args s (fun z G' => z = 1 ∧ CRel G' A)) G1 210 [some (.ref (E.1 0)), some (.int (iN (A.1.2.2.length : Int))), some (.int (iN la)), some (.int (iN fr)), some (.int (iN an)), some (.int (iN on)), some (.int (iN ei)), some (.int (iN 1)), some (.int (iN (u : Int))), some (.int (iN (sb A (u : Int)).1)), some (.int (iN (sb A (u : Int)).2.1)), some (.int (iN ((sb A (u : Int)).2.2.length : Int))), some (.int (iN (need A.1 (sb A (u : Int))))), some (.int (iN (bBl (sb A (u : Int)).2.2))), some (.int (iN sm)), some (.int (iN a)), some (.int (iN (k : Int))), none] [] := by
        intro n
        induction n with
        | zero =>
          intro k sm a G1 hmu
          exact absurd hmu (Nat.not_lt_zero _)
        | succ n ih210 =>
          intro k sm a G1 hmu hul hk ha hsm hI hC
          have hS := sb_ok hA (x := (u : Int)) (by omega)
          obtain ⟨hs0, hs1, hs2, hst⟩ := id hS
          have ht40 := hst.2.1
          have hfb := flt_b A.1 u
          have hln := lns_len (A.1.1 4) ht40
          refine z_iload cx dL_holds_210 rfl ?_
          refine z_aload_n cx dL_holds_212 rfl ?_
          refine z_iload cx dL_holds_213 rfl ?_
          refine z_iconst cx dL_holds_215 ?_
          refine z_vi cx (c_X4_subtitle hC hA (by omega) (by omega)) rfl mv_X4_subtitle ml_L_29 (by omega) (co_main E _) rfl dL_holds_216 (fun z216 G216 hz216 => ?_)
          obtain ⟨hq, hC, -⟩ := hz216
          have hq := hq.trans (rs_5 (by omega))
          subst hq
          refine z_icmp_ge cx (tgt := 295) dL_holds_219 (fun h219 => ?_) (fun h219 => ?_)
          · skip
            have hE := hI.end_ hst (by omega)
            refine z_iload cx dL_holds_295 rfl ?_
            refine z_aload_n cx dL_holds_297 rfl ?_
            refine z_iload cx dL_holds_298 rfl ?_
            refine z_si cx (c_L_faults hC hA (by omega)) rfl ms_L_faults ml_L_41 dL_holds_300 (fun z300 G300 hz300 => ?_)
            obtain ⟨hq, hC⟩ := hz300
            rw [Int.toNat_natCast] at hq
            subst hq
            refine z_if_le cx (tgt := 310) dL_holds_303 (fun h303 => ?_) (fun h303 => ?_)
            · skip
              refine z_iconst cx dL_holds_310 ?_
              refine z_iadd cx dL_holds_311 ?_
              refine z_istore cx dL_holds_312 ?_
              refine Z.locs (L314 _ _ _ (by omega) (by first | exact (by rw [han]; exact (fl_any _ _).1 (by omega)) | exact (by rw [han]; exact (fl_any _ _).2 (by omega))) (by omega) hC) ⟨rfl, rfl, rfl, rfl, rfl, rfl, rfl, rfl, rfl, rfl, rfl, rfl, rfl, rfl, rfl, trivial⟩
            · skip
              refine z_iconst cx dL_holds_306 ?_
              refine z_goto cx (tgt := 311) dL_holds_307 ?_
              refine z_iadd cx dL_holds_311 ?_
              refine z_istore cx dL_holds_312 ?_
              refine Z.locs (L314 _ _ _ (by omega) (by first | exact (by rw [han]; exact (fl_any _ _).1 (by omega)) | exact (by rw [han]; exact (fl_any _ _).2 (by omega))) (by omega) hC) ⟨rfl, rfl, rfl, rfl, rfl, rfl, rfl, rfl, rfl, rfl, rfl, rfl, rfl, rfl, rfl, trivial⟩
          · skip
            obtain ⟨hN1, hN2, hN3, hN4, hN5⟩ := hI.next hst (by omega)
            rw [show ((a.toNat : Nat) : Int) = a by omega] at hN3 hN4 hN5
            refine z_iload cx dL_holds_222 rfl ?_
            refine z_if_eq cx (tgt := 295) dL_holds_224 (fun h224 => ?_) (fun h224 => ?_)
            · skip
              exfalso; omega
            · skip
              refine z_aload_n cx dL_holds_227 rfl ?_
              refine z_iload cx dL_holds_228 rfl ?_
              refine z_iload cx dL_holds_230 rfl ?_
              refine z_vi cx (c_X4_line hC hA (by omega) (by omega)) rfl mv_X4_line ml_L_36 (by omega) (co_main E _) rfl dL_holds_232 (fun z232 G232 hz232 => ?_)
              obtain ⟨hq, hC, -⟩ := hz232
              have hq := hq.trans (rl_nat (by omega) (by omega))
              subst hq
              refine z_istore cx dL_holds_235 ?_
              refine z_iload cx dL_holds_237 rfl ?_
              refine z_iload cx dL_holds_239 rfl ?_
              refine z_iconst cx dL_holds_241 ?_
              refine z_iadd cx dL_holds_242 ?_
              refine z_iadd cx dL_holds_243 ?_
              refine z_istore cx dL_holds_244 ?_
              refine z_iload cx dL_holds_246 rfl ?_
              refine z_iload cx dL_holds_248 rfl ?_
              refine z_iadd cx dL_holds_250 ?_
              refine z_istore cx dL_holds_251 ?_
              refine z_iload cx dL_holds_253 rfl ?_
              refine z_iconst cx dL_holds_255 ?_
              refine z_icmp_lt cx (tgt := 283) dL_holds_256 (fun h256 => ?_) (fun h256 => ?_)
              · skip
                exfalso; omega
              · skip
                refine z_iload cx dL_holds_259 rfl ?_
                refine z_iload cx dL_holds_261 rfl ?_
                refine z_icmp_eq cx (tgt := 279) dL_holds_263 (fun h263 => ?_) (fun h263 => ?_)
                · skip
                  refine z_iconst cx dL_holds_279 ?_
                  refine z_goto cx (tgt := 284) dL_holds_280 ?_
                  refine z_istore cx dL_holds_284 ?_
                  refine z_iinc cx dL_holds_286 rfl ?_
                  refine z_iinc cx dL_holds_289 rfl ?_
                  refine z_goto cx (tgt := 210) dL_holds_292 ?_
                  refine Z.locs (ih210 (k + 1) _ _ _ (by omega) hul (by omega) (by omega) (by omega) hN5 hC) ⟨rfl, rfl, rfl, rfl, rfl, rfl, rfl, rfl, rfl, rfl, rfl, rfl, rfl, rfl, rfl, rfl, rfl, trivial⟩
                · skip
                  refine z_aload_n cx dL_holds_266 rfl ?_
                  refine z_iload cx dL_holds_267 rfl ?_
                  refine z_iload cx dL_holds_269 rfl ?_
                  refine z_vi cx (c_X4_character hC hA (by omega) (by omega)) rfl mv_X4_character ml_L_33 (by omega) (co_main E _) rfl dL_holds_271 (fun z271 G271 hz271 => ?_)
                  obtain ⟨hq, hC, -⟩ := hz271
                  have hq := hq.trans (rc_in (by omega) (by omega))
                  subst hq
                  have hcb4 := hst.2.2.1 (a + (lns (sb A (u : Int)).2.2 (A.1.1 4)).getD k 0).toNat (by omega)
                  refine z_bipush cx dL_holds_274 ?_
                  refine z_icmp_ne cx (tgt := 283) dL_holds_276 (fun h276 => ?_) (fun h276 => ?_)
                  · skip
                    exfalso; omega
                  · skip
                    refine z_iconst cx dL_holds_279 ?_
                    refine z_goto cx (tgt := 284) dL_holds_280 ?_
                    refine z_istore cx dL_holds_284 ?_
                    refine z_iinc cx dL_holds_286 rfl ?_
                    refine z_iinc cx dL_holds_289 rfl ?_
                    refine z_goto cx (tgt := 210) dL_holds_292 ?_
                    refine Z.locs (ih210 (k + 1) _ _ _ (by omega) hul (by omega) (by omega) (by omega) hN5 hC) ⟨rfl, rfl, rfl, rfl, rfl, rfl, rfl, rfl, rfl, rfl, rfl, rfl, rfl, rfl, rfl, rfl, rfl, trivial⟩
      refine z_iload cx dL_holds_144 rfl ?_
      refine z_iload_n cx dL_holds_146 rfl ?_
      refine z_icmp_ge cx (tgt := 592) dL_holds_147 (fun h147 => ?_) (fun h147 => ?_)
      · skip
        refine z_iload cx dL_holds_592 rfl ?_
        refine z_if_eq cx (tgt := 666) dL_holds_594 (fun h594 => ?_) (fun h594 => ?_)
        · skip
          exfalso; omega
        · skip
          obtain rfl : u = A.1.2.2.length := by omega
          refine z_iload cx dL_holds_597 rfl ?_
          refine z_aload_n cx dL_holds_599 rfl ?_
          refine z_iconst cx dL_holds_600 ?_
          refine z_vi cx (c_X4_faulty hC hA (by omega)) rfl mv_X4_faulty ml_L_48 (by omega) (co_main E _) rfl dL_holds_601 (fun z601 G601 hz601 => ?_)
          obtain ⟨hq, hC, -⟩ := hz601
          have hq := hq.trans (fy_0 A)
          subst hq
          refine z_icmp_ne cx (tgt := 666) dL_holds_604 (fun h604 => ?_) (fun h604 => ?_)
          · skip
            exfalso; omega
          · skip
            refine z_iload cx dL_holds_607 rfl ?_
            refine z_aload_n cx dL_holds_609 rfl ?_
            refine z_iconst cx dL_holds_610 ?_
            refine z_vi cx (c_X4_faulty hC hA (by omega)) rfl mv_X4_faulty ml_L_48 (by omega) (co_main E _) rfl dL_holds_611 (fun z611 G611 hz611 => ?_)
            obtain ⟨hq, hC, -⟩ := hz611
            have hq := hq.trans (fy_k A (by omega))
            subst hq
            refine z_icmp_ne cx (tgt := 666) dL_holds_614 (fun h614 => ?_) (fun h614 => ?_)
            · skip
              refine z_iconst cx dL_holds_666 ?_
              refine z_zret cx dL_holds_667 ?_
              exact ⟨by omega, hC⟩
            · skip
              refine z_iload cx dL_holds_617 rfl ?_
              refine z_aload_n cx dL_holds_619 rfl ?_
              refine z_bipush cx dL_holds_620 ?_
              refine z_vi cx (c_X4_faulty hC hA (by omega)) rfl mv_X4_faulty ml_L_48 (by omega) (co_main E _) rfl dL_holds_622 (fun z622 G622 hz622 => ?_)
              obtain ⟨hq, hC, -⟩ := hz622
              have hq := hq.trans (fy_k A (by omega))
              subst hq
              refine z_icmp_ne cx (tgt := 666) dL_holds_625 (fun h625 => ?_) (fun h625 => ?_)
              · skip
                exfalso; omega
              · skip
                refine z_iload_n cx dL_holds_628 rfl ?_
                refine z_aload_n cx dL_holds_629 rfl ?_
                refine z_vi cx (c_X4_shown hC hA) rfl mv_X4_shown ml_L_51 (by omega) (co_main E _) rfl dL_holds_630 (fun z630 G630 hz630 => ?_)
                obtain ⟨hq, hC, -⟩ := hz630
                subst hq
                have hfs : frS A.1 = (sumN (fun i => (A.1.2.2.getD i dS).2.1 - (A.1.2.2.getD i dS).1) A.1.2.2.length) := rfl
                have hfb := frS_b hA.1
                refine z_icmp_ne cx (tgt := 666) dL_holds_633 (fun h633 => ?_) (fun h633 => ?_)
                · skip
                  exfalso; omega
                · skip
                  refine z_aload_n cx dL_holds_636 rfl ?_
                  refine z_vf cx (c_X4_meanSpeed hC hA) rfl mv_X4_meanSpeed ml_L_54 (by omega) (co_main E _) rfl dL_holds_637 (fun z637 G637 hz637 => ?_)
                  obtain ⟨hq, hC, -⟩ := hz637
                  subst hq
                  refine z_fconst0 cx dL_holds_640 ?_
                  refine z_fcmpl cx dL_holds_641 (fun z641 hc641 => ?_)
                  have hc2 : z641 = 0 ∨ z641 = 1 ∨ z641 = -1 := by
                    rcases hc641 with ⟨w, -⟩ | ⟨w, -⟩
                    · exact Or.inr (Or.inl w)
                    · rcases w with w | w
                      · exact Or.inl w
                      · exact Or.inr (Or.inr w)
                  refine z_if_le cx (tgt := 649) dL_holds_642 (fun h642 => ?_) (fun h642 => ?_)
                  · skip
                    have hz0 : A.1.2.2.length = 0 := by
                      rcases Nat.eq_zero_or_pos A.1.2.2.length with w | w
                      · exact w
                      · rcases hc641 with ⟨w2, -⟩ | ⟨-, w2⟩
                        · omega
                        · exact absurd (mean_gt hA w) w2
                    refine z_iconst cx dL_holds_649 ?_
                    refine z_iload_n cx dL_holds_650 rfl ?_
                    refine z_if_le cx (tgt := 658) dL_holds_651 (fun h651 => ?_) (fun h651 => ?_)
                    · skip
                      refine z_iconst cx dL_holds_658 ?_
                      refine z_icmp_ne cx (tgt := 666) dL_holds_659 (fun h659 => ?_) (fun h659 => ?_)
                      · skip
                        refine z_iconst cx dL_holds_666 ?_
                        refine z_zret cx dL_holds_667 ?_
                        exact ⟨by omega, hC⟩
                      · skip
                        refine z_iconst cx dL_holds_662 ?_
                        refine z_goto cx (tgt := 667) dL_holds_663 ?_
                        refine z_zret cx dL_holds_667 ?_
                        exact ⟨by omega, hC⟩
                    · skip
                      refine z_iconst cx dL_holds_654 ?_
                      refine z_goto cx (tgt := 659) dL_holds_655 ?_
                      refine z_icmp_ne cx (tgt := 666) dL_holds_659 (fun h659 => ?_) (fun h659 => ?_)
                      · skip
                        refine z_iconst cx dL_holds_666 ?_
                        refine z_zret cx dL_holds_667 ?_
                        exact ⟨by omega, hC⟩
                      · skip
                        refine z_iconst cx dL_holds_662 ?_
                        refine z_goto cx (tgt := 667) dL_holds_663 ?_
                        refine z_zret cx dL_holds_667 ?_
                        exact ⟨by omega, hC⟩
                  · skip
                    have hz0 : 0 < A.1.2.2.length := by
                      rcases Nat.eq_zero_or_pos A.1.2.2.length with w | w
                      · rcases hc641 with ⟨-, w2⟩ | ⟨w2, -⟩
                        · exact absurd w2 (mean_0 w)
                        · omega
                      · exact w
                    refine z_iconst cx dL_holds_645 ?_
                    refine z_goto cx (tgt := 650) dL_holds_646 ?_
                    refine z_iload_n cx dL_holds_650 rfl ?_
                    refine z_if_le cx (tgt := 658) dL_holds_651 (fun h651 => ?_) (fun h651 => ?_)
                    · skip
                      refine z_iconst cx dL_holds_658 ?_
                      refine z_icmp_ne cx (tgt := 666) dL_holds_659 (fun h659 => ?_) (fun h659 => ?_)
                      · skip
                        refine z_iconst cx dL_holds_666 ?_
                        refine z_zret cx dL_holds_667 ?_
                        exact ⟨by omega, hC⟩
                      · skip
                        refine z_iconst cx dL_holds_662 ?_
                        refine z_goto cx (tgt := 667) dL_holds_663 ?_
                        refine z_zret cx dL_holds_667 ?_
                        exact ⟨by omega, hC⟩
                    · skip
                      refine z_iconst cx dL_holds_654 ?_
                      refine z_goto cx (tgt := 659) dL_holds_655 ?_
                      refine z_icmp_ne cx (tgt := 666) dL_holds_659 (fun h659 => ?_) (fun h659 => ?_)
                      · skip
                        refine z_iconst cx dL_holds_666 ?_
                        refine z_zret cx dL_holds_667 ?_
                        exact ⟨by omega, hC⟩
                      · skip
                        refine z_iconst cx dL_holds_662 ?_
                        refine z_goto cx (tgt := 667) dL_holds_663 ?_
                        refine z_zret cx dL_holds_667 ?_
                        exact ⟨by omega, hC⟩
      · skip
        have hS := sb_ok hA (x := (u : Int)) (by omega)
        obtain ⟨hs0, hs1, hs2, hst⟩ := id hS
        have ht40 := hst.2.1
        refine z_iload cx dL_holds_150 rfl ?_
        refine z_if_eq cx (tgt := 592) dL_holds_152 (fun h152 => ?_) (fun h152 => ?_)
        · skip
          exfalso; omega
        · skip
          refine z_aload_n cx dL_holds_155 rfl ?_
          refine z_iload cx dL_holds_156 rfl ?_
          refine z_iconst cx dL_holds_158 ?_
          refine z_vi cx (c_X4_subtitle hC hA (by omega) (by omega)) rfl mv_X4_subtitle ml_L_29 (by omega) (co_main E _) rfl dL_holds_159 (fun z159 G159 hz159 => ?_)
          obtain ⟨hq, hC, -⟩ := hz159
          have hq := hq.trans (rs_0 (by omega))
          subst hq
          refine z_istore cx dL_holds_162 ?_
          refine z_aload_n cx dL_holds_164 rfl ?_
          refine z_iload cx dL_holds_165 rfl ?_
          refine z_iconst cx dL_holds_167 ?_
          refine z_vi cx (c_X4_subtitle hC hA (by omega) (by omega)) rfl mv_X4_subtitle ml_L_29 (by omega) (co_main E _) rfl dL_holds_168 (fun z168 G168 hz168 => ?_)
          obtain ⟨hq, hC, -⟩ := hz168
          have hq := hq.trans (rs_1 (by omega))
          subst hq
          refine z_istore cx dL_holds_171 ?_
          refine z_aload_n cx dL_holds_173 rfl ?_
          refine z_iload cx dL_holds_174 rfl ?_
          refine z_iconst cx dL_holds_176 ?_
          refine z_vi cx (c_X4_subtitle hC hA (by omega) (by omega)) rfl mv_X4_subtitle ml_L_29 (by omega) (co_main E _) rfl dL_holds_177 (fun z177 G177 hz177 => ?_)
          obtain ⟨hq, hC, -⟩ := hz177
          have hq := hq.trans (rs_2 (by omega))
          subst hq
          refine z_istore cx dL_holds_180 ?_
          refine z_aload_n cx dL_holds_182 rfl ?_
          refine z_iload cx dL_holds_183 rfl ?_
          refine z_iconst cx dL_holds_185 ?_
          refine z_vi cx (c_X4_subtitle hC hA (by omega) (by omega)) rfl mv_X4_subtitle ml_L_29 (by omega) (co_main E _) rfl dL_holds_186 (fun z186 G186 hz186 => ?_)
          obtain ⟨hq, hC, -⟩ := hz186
          have hq := hq.trans (rs_3 (by omega))
          subst hq
          refine z_istore cx dL_holds_189 ?_
          refine z_aload_n cx dL_holds_191 rfl ?_
          refine z_iload cx dL_holds_192 rfl ?_
          refine z_bipush cx dL_holds_194 ?_
          refine z_vi cx (c_X4_subtitle hC hA (by omega) (by omega)) rfl mv_X4_subtitle ml_L_29 (by omega) (co_main E _) rfl dL_holds_196 (fun z196 G196 hz196 => ?_)
          obtain ⟨hq, hC, -⟩ := hz196
          have hq := hq.trans (rs_6 (by omega))
          subst hq
          refine z_istore cx dL_holds_199 ?_
          refine z_iconst cx dL_holds_201 ?_
          refine z_istore cx dL_holds_202 ?_
          refine z_iconst cx dL_holds_204 ?_
          refine z_istore cx dL_holds_205 ?_
          refine z_iconst cx dL_holds_207 ?_
          refine z_istore cx dL_holds_208 ?_
          refine Z.locs (L210 _ (0) _ _ _ (Nat.lt_succ_self _) (by omega) (Nat.zero_le _) ⟨by decide, by decide⟩ rfl (LnI_0 _ (sb_ok hA (by omega)).2.2.2) hC) ⟨rfl, rfl, rfl, rfl, rfl, rfl, rfl, rfl, rfl, rfl, rfl, rfl, rfl, rfl, rfl, rfl, rfl, trivial⟩
  have L77 : ∀ (n : Nat) (k : Nat) (G1 : Wd), (20 - k) < n → (1 ≤ k ∧ k ≤ 13) → (CRel G1 A) → Z p l e (zr 6 146) s m args below meth c 18 0 0 E (Qi_ E below args s (fun z G' => z = 1 ∧ CRel G' A)) G1 77 [some (.ref (E.1 0)), some (.int (iN (A.1.2.2.length : Int))), some (.int (iN 0)), some (.int (iN 0)), some (.int (iN 0)), some (.int (iN 0)), some (.int (iN 0)), some (.int (iN 1)), some (.int (iN (k : Int))), none, none, none, none, none, none, none, none, none] [] := by
    intro n
    induction n with
    | zero =>
      intro k G1 hmu
      exact absurd hmu (Nat.not_lt_zero _)
    | succ n ih77 =>
      intro k G1 hmu hk hC
      refine z_iload cx dL_holds_77 rfl ?_
      refine z_aload_n cx dL_holds_79 rfl ?_
      refine z_vi cx (c_X4_cuts hC hA) rfl mv_X4_cuts ml_L_19 (by omega) (co_main E _) rfl dL_holds_80 (fun z80 G80 hz80 => ?_)
      obtain ⟨hq, hC, -⟩ := hz80
      subst hq
      refine z_icmp_ge cx (tgt := 141) dL_holds_83 (fun h83 => ?_) (fun h83 => ?_)
      · skip
        refine z_iconst cx dL_holds_141 ?_
        refine z_istore cx dL_holds_142 ?_
        refine Z.locs (L144 _ (0) _ _ _ _ _ _ (Nat.lt_succ_self _) (Nat.zero_le _) ⟨Int.le_refl _, by decide, fun w => (sb_ok hA (x := ((0 : Nat) : Int)) (by omega)).1⟩ rfl rfl rfl rfl hC) ⟨rfl, rfl, rfl, rfl, rfl, rfl, rfl, rfl, rfl, trivial⟩
      · skip
        have hc1 := hA.1.2.1.2.2 (k - 1) k (by omega) (by omega)
        have hc2 := hA.1.2.1.2.1 k (by omega)
        have hc3 := hA.1.2.1.2.1 (k - 1) (by omega)
        have hc4 := hA.1.2.1.2.1 0 (by omega)
        refine z_iload cx dL_holds_86 rfl ?_
        refine z_if_eq cx (tgt := 132) dL_holds_88 (fun h88 => ?_) (fun h88 => ?_)
        · skip
          exfalso; omega
        · skip
          refine z_aload_n cx dL_holds_91 rfl ?_
          refine z_iload cx dL_holds_92 rfl ?_
          refine z_iconst cx dL_holds_94 ?_
          refine z_isub cx dL_holds_95 ?_
          refine z_vi cx (c_X4_cutAt hC hA (by omega)) rfl mv_X4_cutAt ml_L_23 (by omega) (co_main E _) rfl dL_holds_96 (fun z96 G96 hz96 => ?_)
          obtain ⟨hq, hC, -⟩ := hz96
          have hq := hq.trans (rk_pred (by omega) (by omega))
          subst hq
          refine z_aload_n cx dL_holds_99 rfl ?_
          refine z_iload cx dL_holds_100 rfl ?_
          refine z_vi cx (c_X4_cutAt hC hA (by omega)) rfl mv_X4_cutAt ml_L_23 (by omega) (co_main E _) rfl dL_holds_102 (fun z102 G102 hz102 => ?_)
          obtain ⟨hq, hC, -⟩ := hz102
          have hq := hq.trans (rk_nat (by omega))
          subst hq
          refine z_icmp_ge cx (tgt := 132) dL_holds_105 (fun h105 => ?_) (fun h105 => ?_)
          · skip
            exfalso; omega
          · skip
            refine z_aload_n cx dL_holds_108 rfl ?_
            refine z_iload cx dL_holds_109 rfl ?_
            refine z_vi cx (c_X4_cutAt hC hA (by omega)) rfl mv_X4_cutAt ml_L_23 (by omega) (co_main E _) rfl dL_holds_111 (fun z111 G111 hz111 => ?_)
            obtain ⟨hq, hC, -⟩ := hz111
            have hq := hq.trans (rk_nat (by omega))
            subst hq
            refine z_sipush cx dL_holds_114 ?_
            refine z_icmp_ge cx (tgt := 132) dL_holds_117 (fun h117 => ?_) (fun h117 => ?_)
            · skip
              exfalso; omega
            · skip
              refine z_aload_n cx dL_holds_120 rfl ?_
              refine z_iconst cx dL_holds_121 ?_
              refine z_vi cx (c_X4_cutAt hC hA (by omega)) rfl mv_X4_cutAt ml_L_23 (by omega) (co_main E _) rfl dL_holds_122 (fun z122 G122 hz122 => ?_)
              obtain ⟨hq, hC, -⟩ := hz122
              have hq := hq.trans (rk_0 (by omega))
              subst hq
              refine z_if_le cx (tgt := 132) dL_holds_125 (fun h125 => ?_) (fun h125 => ?_)
              · skip
                exfalso; omega
              · skip
                refine z_iconst cx dL_holds_128 ?_
                refine z_goto cx (tgt := 133) dL_holds_129 ?_
                refine z_istore cx dL_holds_133 ?_
                refine z_iinc cx dL_holds_135 rfl ?_
                refine z_goto cx (tgt := 77) dL_holds_138 ?_
                refine Z.locs (ih77 (k + 1) _ (by omega) (by omega) hC) ⟨rfl, rfl, rfl, rfl, rfl, rfl, rfl, rfl, rfl, trivial⟩
  refine z_aload_n cx dL_holds_0 rfl ?_
  refine z_vi cx (c_X4_subtitles hC hA) rfl mv_X4_subtitles ml_L_26 (by omega) (co_main E _) rfl dL_holds_1 (fun z1 G1 hz1 => ?_)
  obtain ⟨hq, hC, -⟩ := hz1
  subst hq
  refine z_istore_n cx dL_holds_4 ?_
  refine z_iconst cx dL_holds_5 ?_
  refine z_istore_n cx dL_holds_6 ?_
  refine z_iconst cx dL_holds_7 ?_
  refine z_istore_n cx dL_holds_8 ?_
  refine z_iconst cx dL_holds_9 ?_
  refine z_istore cx dL_holds_10 ?_
  refine z_iconst cx dL_holds_12 ?_
  refine z_istore cx dL_holds_13 ?_
  refine z_iconst cx dL_holds_15 ?_
  refine z_istore cx dL_holds_16 ?_
  refine z_iload_n cx dL_holds_18 rfl ?_
  refine z_if_lt cx (tgt := 71) dL_holds_19 (fun h19 => ?_) (fun h19 => ?_)
  · skip
    exfalso; omega
  · skip
    refine z_iload_n cx dL_holds_22 rfl ?_
    refine z_bipush cx dL_holds_23 ?_
    refine z_icmp_gt cx (tgt := 71) dL_holds_25 (fun h25 => ?_) (fun h25 => ?_)
    · skip
      exfalso; omega
    · skip
      refine z_aload_n cx dL_holds_28 rfl ?_
      refine z_vi cx (c_X4_cuts hC hA) rfl mv_X4_cuts ml_L_19 (by omega) (co_main E _) rfl dL_holds_29 (fun z29 G29 hz29 => ?_)
      obtain ⟨hq, hC, -⟩ := hz29
      subst hq
      refine z_if_lt cx (tgt := 71) dL_holds_32 (fun h32 => ?_) (fun h32 => ?_)
      · skip
        exfalso; omega
      · skip
        refine z_aload_n cx dL_holds_35 rfl ?_
        refine z_vi cx (c_X4_cuts hC hA) rfl mv_X4_cuts ml_L_19 (by omega) (co_main E _) rfl dL_holds_36 (fun z36 G36 hz36 => ?_)
        obtain ⟨hq, hC, -⟩ := hz36
        subst hq
        refine z_bipush cx dL_holds_39 ?_
        refine z_icmp_gt cx (tgt := 71) dL_holds_41 (fun h41 => ?_) (fun h41 => ?_)
        · skip
          exfalso; omega
        · skip
          refine z_aload_n cx dL_holds_44 rfl ?_
          refine z_iload_n cx dL_holds_45 rfl ?_
          refine z_iconst cx dL_holds_46 ?_
          refine z_vi cx (c_X4_subtitle hC hA (by omega) (by omega)) rfl mv_X4_subtitle ml_L_29 (by omega) (co_main E _) rfl dL_holds_47 (fun z47 G47 hz47 => ?_)
          obtain ⟨hq, hC, -⟩ := hz47
          have hq := hq.trans (rs_no (by omega))
          subst hq
          refine z_iconst cx dL_holds_50 ?_
          refine z_icmp_ne cx (tgt := 71) dL_holds_51 (fun h51 => ?_) (fun h51 => ?_)
          · skip
            exfalso; omega
          · skip
            refine z_aload_n cx dL_holds_54 rfl ?_
            refine z_aload_n cx dL_holds_55 rfl ?_
            refine z_vi cx (c_X4_cuts hC hA) rfl mv_X4_cuts ml_L_19 (by omega) (co_main E _) rfl dL_holds_56 (fun z56 G56 hz56 => ?_)
            obtain ⟨hq, hC, -⟩ := hz56
            subst hq
            refine z_vi cx (c_X4_cutAt hC hA (by omega)) rfl mv_X4_cutAt ml_L_23 (by omega) (co_main E _) rfl dL_holds_59 (fun z59 G59 hz59 => ?_)
            obtain ⟨hq, hC, -⟩ := hz59
            have hq := hq.trans (rk_end rfl)
            subst hq
            refine z_bipush cx dL_holds_62 ?_
            refine z_icmp_ne cx (tgt := 71) dL_holds_64 (fun h64 => ?_) (fun h64 => ?_)
            · skip
              exfalso; omega
            · skip
              refine z_iconst cx dL_holds_67 ?_
              refine z_goto cx (tgt := 72) dL_holds_68 ?_
              refine z_istore cx dL_holds_72 ?_
              refine z_iconst cx dL_holds_74 ?_
              refine z_istore cx dL_holds_75 ?_
              refine Z.locs (L77 _ (1) _ (Nat.lt_succ_self _) (by omega) hC) ⟨rfl, rfl, rfl, rfl, rfl, rfl, rfl, rfl, rfl, trivial⟩
