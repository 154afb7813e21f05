/-! ===== the model: what it reads ===== -/
set_option maxRecDepth 100000 in
set_option maxHeartbeats 4000000 in
theorem c_X5_needs {E : En} {G : Wd} {F : Fm} {x : Int} {i : Nat} (hx : x = (i : Int)) {S : Sb} (hS : MSub (G 20 0) i S) (hT : SbOk S) (hi : i < 20) (hOv : VlOk F.1) (v0 : G 20 0 1 = F.1 0) (v2 : G 20 0 3 = F.1 2) : Cti E yX5_needs cX5_needs 3 .int 1 22 [.ref (E.1 6), .int (iN (x))] G (fun z G' => G' = G ∧ z = need F S) := by
  have t0 := hS.1
  have t1 := hS.2.1
  have t2 := hS.2.2.1
  have t3 := hS.2.2.2
  have o1 := hT.1
  have o2 := hT.2.1
  have o3 := hT.2.2.1
  have o4 := hT.2.2.2.1
  have o5 := hT.2.2.2.2.1
  obtain ⟨hv0, hv1, hv2, hv3, hv4, hv5⟩ := id hOv
  refine Cti.mk [some (.ref (E.1 6)), some (.int (iN (x))), none] (by decide) rfl (by intro v hv; simp only [List.mem_cons, List.not_mem_nil, or_false] at hv; rcases hv with rfl | rfl <;> rfl) (Nat.le_of_ble_eq_true rfl) ?_
  intro p l e s m args below meth c cx
  refine z_bipush cx dX5_needs_0 ?_
  refine z_aload_n cx dX5_needs_2 rfl ?_
  refine z_iload_n cx dX5_needs_3 rfl ?_
  refine z_iconst cx dX5_needs_4 ?_
  refine z_vi cx (c_X5_of (20 + 43 * i + 2) (by omega) (by omega)) rfl mv_X5_of ml_X5_43 (by omega) (co_mod E _) rfl dX5_needs_5 (fun z5 G5 hz5 => ?_)
  obtain ⟨eG, rfl⟩ := hz5
  have eG := eG.symm
  subst eG
  refine z_imul cx dX5_needs_8 ?_
  refine z_aload_n cx dX5_needs_9 rfl ?_
  refine z_iconst cx dX5_needs_10 ?_
  refine z_vi cx (c_X5_its 1 rfl (by omega)) rfl mv_X5_its ml_X5_47 (by omega) (co_mod E _) rfl dX5_needs_11 (fun z11 G11 hz11 => ?_)
  obtain ⟨eG, rfl⟩ := hz11
  have eG := eG.symm
  subst eG
  refine z_iadd cx dX5_needs_14 ?_
  refine z_iconst cx dX5_needs_15 ?_
  refine z_isub cx dX5_needs_16 ?_
  refine z_aload_n cx dX5_needs_17 rfl ?_
  refine z_iconst cx dX5_needs_18 ?_
  refine z_vi cx (c_X5_its 1 rfl (by omega)) rfl mv_X5_its ml_X5_47 (by omega) (co_mod E _) rfl dX5_needs_19 (fun z19 G19 hz19 => ?_)
  obtain ⟨eG, rfl⟩ := hz19
  have eG := eG.symm
  subst eG
  refine z_idiv cx dX5_needs_22 ?_
  have hdv : 0 ≤ (25 * G 20 0 (20 + 43 * i + 2) + G 20 0 1 - 1) / G 20 0 1 := Int.ediv_nonneg (by omega) (by omega)
  have hdv2 : (25 * G 20 0 (20 + 43 * i + 2) + G 20 0 1 - 1) / G 20 0 1 ≤ 25 * G 20 0 (20 + 43 * i + 2) + G 20 0 1 - 1 := Int.ediv_le_self _ (by omega)
  generalize hq : (25 * G 20 0 (20 + 43 * i + 2) + G 20 0 1 - 1) / G 20 0 1 = qq at hdv hdv2 ⊢
  have hq2 : qq = (25 * (S.2.2.length : Int) + F.1 0 - 1) / F.1 0 := by rw [← hq, t2, v0]
  refine z_istore_n cx dX5_needs_23 ?_
  refine z_iload_n cx dX5_needs_24 rfl ?_
  refine z_aload_n cx dX5_needs_25 rfl ?_
  refine z_iconst cx dX5_needs_26 ?_
  refine z_vi cx (c_X5_its 3 rfl (by omega)) rfl mv_X5_its ml_X5_47 (by omega) (co_mod E _) rfl dX5_needs_27 (fun z27 G27 hz27 => ?_)
  obtain ⟨eG, rfl⟩ := hz27
  have eG := eG.symm
  subst eG
  refine z_icmp_ge cx (tgt := 41) dX5_needs_30 (fun h30 => ?_) (fun h30 => ?_)
  · skip
    refine z_iload_n cx dX5_needs_41 rfl ?_
    refine z_iret cx dX5_needs_42 ?_
    refine ⟨rfl, ?_⟩
    unfold need
    rw [← hq2]
    omega
  · skip
    refine z_aload_n cx dX5_needs_33 rfl ?_
    refine z_iconst cx dX5_needs_34 ?_
    refine z_vi cx (c_X5_its 3 rfl (by omega)) rfl mv_X5_its ml_X5_47 (by omega) (co_mod E _) rfl dX5_needs_35 (fun z35 G35 hz35 => ?_)
    obtain ⟨eG, rfl⟩ := hz35
    have eG := eG.symm
    subst eG
    refine z_goto cx (tgt := 42) dX5_needs_38 ?_
    refine z_iret cx dX5_needs_42 ?_
    refine ⟨rfl, ?_⟩
    unfold need
    rw [← hq2]
    omega
set_option maxRecDepth 100000 in
set_option maxHeartbeats 4000000 in
theorem c_X5_isFast {E : En} {G : Wd} {y : Int} {x : Int} {i : Nat} (hx : x = (i : Int)) {S : Sb} (hS : MSub (G 20 0) i S) (hT : SbOk S) (hi : i < 20) (hy : 0 ≤ y ∧ y ≤ 100) : Cti E yX5_isFast cX5_isFast 3 .boolean 2 43 [.ref (E.1 6), .int (iN (x)), .int (iN (y))] G (fun z G' => G' = G ∧ (z = 1 ∧ fast S y ∨ z = 0 ∧ ¬ fast S y)) := by
  have t0 := hS.1
  have t1 := hS.2.1
  have t2 := hS.2.2.1
  have t3 := hS.2.2.2
  have o1 := hT.1
  have o2 := hT.2.1
  have o3 := hT.2.2.1
  have o4 := hT.2.2.2.1
  have o5 := hT.2.2.2.2.1
  have hm : 0 ≤ y * (S.2.1 - S.1) ∧ y * (S.2.1 - S.1) ≤ 500000 := by
    have h1 := Int.mul_le_mul hy.2 (show S.2.1 - S.1 ≤ 5000 by omega) (show 0 ≤ S.2.1 - S.1 by omega) (by omega)
    have h2 := Int.mul_nonneg hy.1 (show 0 ≤ S.2.1 - S.1 by omega)
    omega
  refine Cti.mk [some (.ref (E.1 6)), some (.int (iN (x))), some (.int (iN (y)))] (by decide) rfl (by intro v hv; simp only [List.mem_cons, List.not_mem_nil, or_false] at hv; rcases hv with rfl | rfl | rfl <;> rfl) (Nat.le_of_ble_eq_true rfl) ?_
  intro p l e s m args below meth c cx
  refine z_bipush cx dX5_isFast_0 ?_
  refine z_aload_n cx dX5_isFast_2 rfl ?_
  refine z_iload_n cx dX5_isFast_3 rfl ?_
  refine z_iconst cx dX5_isFast_4 ?_
  refine z_vi cx (c_X5_of (20 + 43 * i + 2) (by omega) (by omega)) rfl mv_X5_of ml_X5_43 (by omega) (co_mod E _) rfl dX5_isFast_5 (fun z5 G5 hz5 => ?_)
  obtain ⟨eG, rfl⟩ := hz5
  have eG := eG.symm
  subst eG
  rw [t2]
  refine z_imul cx dX5_isFast_8 ?_
  refine z_iload_n cx dX5_isFast_9 rfl ?_
  refine z_aload_n cx dX5_isFast_10 rfl ?_
  refine z_iload_n cx dX5_isFast_11 rfl ?_
  refine z_vi cx (c_X5_framesOf (20 + 43 * i) (by omega) (by omega)) rfl mv_X5_framesOf ml_X5_65 (by omega) (co_mod E _) rfl dX5_isFast_12 (fun z12 G12 hz12 => ?_)
  obtain ⟨eG, rfl⟩ := hz12
  have eG := eG.symm
  subst eG
  rw [t1, t0]
  refine z_imul cx dX5_isFast_15 ?_
  refine z_icmp_le cx (tgt := 23) dX5_isFast_16 (fun h16 => ?_) (fun h16 => ?_)
  · skip
    refine z_iconst cx dX5_isFast_23 ?_
    refine z_zret cx dX5_isFast_24 ?_
    refine ⟨rfl, ?_⟩
    unfold fast
    omega
  · skip
    refine z_iconst cx dX5_isFast_19 ?_
    refine z_goto cx (tgt := 24) dX5_isFast_20 ?_
    refine z_zret cx dX5_isFast_24 ?_
    refine ⟨rfl, ?_⟩
    unfold fast
    omega
set_option maxRecDepth 100000 in
set_option maxHeartbeats 4000000 in
theorem c_X5_nearestCut {E : En} {G : Wd} {x : Int} {C : List Int} (hcc : G 20 0 7 = (C.length : Int)) (hcu : ∀ i, i < C.length → G 20 0 (8 + i) = C.getD i 0) (hOc : CuOk C) (hx : -5000 ≤ x ∧ x ≤ 10000) : Cti E yX5_nearestCut cX5_nearestCut 5 .int 1 21 [.ref (E.1 6), .int (iN (x))] G (fun z G' => G' = G ∧ z = ncut C x) := by
  have hl12 := hOc.1
  refine Cti.mk [some (.ref (E.1 6)), some (.int (iN (x))), none, none, none] (by decide) rfl (by intro v hv; simp only [List.mem_cons, List.not_mem_nil, or_false] at hv; rcases hv with rfl | rfl <;> rfl) (Nat.le_of_ble_eq_true rfl) ?_
  intro p l e s m args below meth c cx
  have L13 : ∀ (n : Nat) (k : Nat) (nr : Int), k < n → (k ≤ C.length) → (NCd C x k nr) → Z p l e (zr 1 21) s m args below meth c 5 0 0 E (Qi_ E below args s (fun z G' => G' = G ∧ z = ncut C x)) G 13 [some (.ref (E.1 6)), some (.int (iN (x))), some (.int (iN (nr))), some (.int (iN ((k : Int) - 1))), none] [] := by
    intro n
    induction n with
    | zero =>
      intro k nr hmu
      exact absurd hmu (Nat.not_lt_zero _)
    | succ n ih =>
      intro k nr hmu hk hN
      have hnr : (k = C.length ∧ nr = -6) ∨ (k < C.length ∧ 1 ≤ nr ∧ nr ≤ 4999) := by
        rcases hN with q1 | ⟨i, q0, q1, q2, -⟩
        · exact Or.inl q1
        · have := hOc.2.1 i (by omega)
          exact Or.inr ⟨by omega, by omega⟩
      refine z_iload_n cx dX5_nearestCut_13 rfl ?_
      refine z_if_lt cx (tgt := 61) dX5_nearestCut_14 (fun h14 => ?_) (fun h14 => ?_)
      · skip
        refine z_iload_n cx dX5_nearestCut_61 rfl ?_
        refine z_iret cx dX5_nearestCut_62 ?_
        refine ⟨rfl, ?_⟩
        have hk0 : k = 0 := by omega
        subst hk0
        exact hN.end_.symm
      · skip
        obtain ⟨k', rfl⟩ : ∃ k' : Nat, k = k' + 1 := ⟨k - 1, by omega⟩
        have ec := hcu k' (by omega)
        have hcb := hOc.2.1 k' (by omega)
        refine z_aload_n cx dX5_nearestCut_17 rfl ?_
        refine g_X5_0 cx fl_X5_7 dX5_nearestCut_18 ?_
        refine z_bipush cx dX5_nearestCut_21 ?_
        refine z_iload_n cx dX5_nearestCut_23 rfl ?_
        refine z_iadd cx dX5_nearestCut_24 ?_
        refine z_iald cx (8 + k') (by omega) (by omega) (co_s E _) dX5_nearestCut_25 ?_
        rw [ec]
        refine z_istore cx dX5_nearestCut_26 ?_
        refine z_iload_n cx dX5_nearestCut_28 rfl ?_
        refine z_bipush cx dX5_nearestCut_29 ?_
        refine z_icmp_eq cx (tgt := 48) dX5_nearestCut_31 (fun h31 => ?_) (fun h31 => ?_)
        · skip
          refine z_iload cx dX5_nearestCut_48 rfl ?_
          refine z_goto cx (tgt := 54) dX5_nearestCut_50 ?_
          refine z_istore_n cx dX5_nearestCut_54 ?_
          refine z_iinc cx dX5_nearestCut_55 rfl ?_
          refine z_goto cx (tgt := 13) dX5_nearestCut_58 ?_
          rw [show (((k' + 1 : Nat) : Int) - 1 + -1) = (k' : Int) - 1 by omega]
          refine Z.locs (ih (k') _ (by omega) (by omega) (by first | exact hN.keep (by omega) (by omega) | exact hN.new (by omega) (by omega))) ⟨rfl, rfl, rfl, rfl, trivial⟩
        · skip
          refine z_iload cx dX5_nearestCut_34 rfl ?_
          refine z_iload_n cx dX5_nearestCut_36 rfl ?_
          refine z_si cx (c_X5_far (by omega)) rfl ms_X5_far ml_X5_82 dX5_nearestCut_37 (fun z37 G37 hz37 => ?_)
          obtain ⟨eG, rfl⟩ := hz37
          have eG := eG.symm
          subst eG
          refine z_iload_n cx dX5_nearestCut_40 rfl ?_
          refine z_iload_n cx dX5_nearestCut_41 rfl ?_
          refine z_si cx (c_X5_far (by omega)) rfl ms_X5_far ml_X5_82 dX5_nearestCut_42 (fun z42 G42 hz42 => ?_)
          obtain ⟨eG, rfl⟩ := hz42
          have eG := eG.symm
          subst eG
          refine z_icmp_gt cx (tgt := 53) dX5_nearestCut_45 (fun h45 => ?_) (fun h45 => ?_)
          · skip
            refine z_iload_n cx dX5_nearestCut_53 rfl ?_
            refine z_istore_n cx dX5_nearestCut_54 ?_
            refine z_iinc cx dX5_nearestCut_55 rfl ?_
            refine z_goto cx (tgt := 13) dX5_nearestCut_58 ?_
            rw [show (((k' + 1 : Nat) : Int) - 1 + -1) = (k' : Int) - 1 by omega]
            refine Z.locs (ih (k') _ (by omega) (by omega) (by first | exact hN.keep (by omega) (by omega) | exact hN.new (by omega) (by omega))) ⟨rfl, rfl, rfl, rfl, trivial⟩
          · skip
            refine z_iload cx dX5_nearestCut_48 rfl ?_
            refine z_goto cx (tgt := 54) dX5_nearestCut_50 ?_
            refine z_istore_n cx dX5_nearestCut_54 ?_
            refine z_iinc cx dX5_nearestCut_55 rfl ?_
            refine z_goto cx (tgt := 13) dX5_nearestCut_58 ?_
            rw [show (((k' + 1 : Nat) : Int) - 1 + -1) = (k' : Int) - 1 by omega]
            refine Z.locs (ih (k') _ (by omega) (by omega) (by first | exact hN.keep (by omega) (by omega) | exact hN.new (by omega) (by omega))) ⟨rfl, rfl, rfl, rfl, trivial⟩
  refine z_bipush cx dX5_nearestCut_0 ?_
  refine z_istore_n cx dX5_nearestCut_2 ?_
  refine z_aload_n cx dX5_nearestCut_3 rfl ?_
  refine g_X5_0 cx fl_X5_7 dX5_nearestCut_4 ?_
  refine z_bipush cx dX5_nearestCut_7 ?_
  refine z_iald cx (7) (by omega) (by omega) (co_s E _) dX5_nearestCut_9 ?_
  refine z_iconst cx dX5_nearestCut_10 ?_
  refine z_isub cx dX5_nearestCut_11 ?_
  rw [hcc]
  refine z_istore_n cx dX5_nearestCut_12 ?_
  refine Z.locs (L13 _ (C.length) (-6) (Nat.lt_succ_self _) (by omega) (Or.inl ⟨rfl, rfl⟩)) ⟨rfl, rfl, rfl, rfl, trivial⟩
set_option maxRecDepth 100000 in
set_option maxHeartbeats 4000000 in
theorem c_X5_isNearCut {E : En} {G : Wd} {F : Fm} {x : Int} {i : Nat} (hx : x = (i : Int)) {S : Sb} (hS : MSub (G 20 0) i S) (hT : SbOk S) (hi : i < 20) (hOv : VlOk F.1) (v5 : G 20 0 6 = F.1 5) (hcc : G 20 0 7 = (F.2.1.length : Int)) (hcu : ∀ i, i < F.2.1.length → G 20 0 (8 + i) = F.2.1.getD i 0) (hOc : CuOk F.2.1) : Cti E yX5_isNearCut cX5_isNearCut 6 .boolean 1 22 [.ref (E.1 6), .int (iN (x))] G (fun z G' => G' = G ∧ (z = 1 ∧ nearC F S ∨ z = 0 ∧ ¬ nearC F S)) := by
  have t0 := hS.1
  have t1 := hS.2.1
  have t2 := hS.2.2.1
  have t3 := hS.2.2.2
  have o1 := hT.1
  have o2 := hT.2.1
  have o3 := hT.2.2.1
  have o4 := hT.2.2.2.1
  have o5 := hT.2.2.2.2.1
  have hl12 := hOc.1
  obtain ⟨hv0, hv1, hv2, hv3, hv4, hv5⟩ := id hOv
  refine Cti.mk [some (.ref (E.1 6)), some (.int (iN (x))), none, none, none, none] (by decide) rfl (by intro v hv; simp only [List.mem_cons, List.not_mem_nil, or_false] at hv; rcases hv with rfl | rfl <;> rfl) (Nat.le_of_ble_eq_true rfl) ?_
  intro p l e s m args below meth c cx
  have L4 : ∀ (n : Nat) (k : Nat) (is : Int), (60 - k) < n → (k ≤ F.2.1.length) → (is = 1 ∧ (∃ i, i < k ∧ F.2.1.getD i 0 - S.1 > 0 ∧ S.2.1 - F.2.1.getD i 0 > 0 ∧ (F.2.1.getD i 0 - S.1 < F.1 5 ∨ S.2.1 - F.2.1.getD i 0 < F.1 5)) ∨ is = 0 ∧ ∀ i, i < k → ¬ (F.2.1.getD i 0 - S.1 > 0 ∧ S.2.1 - F.2.1.getD i 0 > 0 ∧ (F.2.1.getD i 0 - S.1 < F.1 5 ∨ S.2.1 - F.2.1.getD i 0 < F.1 5))) → Z p l e (zr 1 22) s m args below meth c 6 0 0 E (Qi_ E below args s (fun z G' => G' = G ∧ (z = 1 ∧ nearC F S ∨ z = 0 ∧ ¬ nearC F S))) G 4 [some (.ref (E.1 6)), some (.int (iN (x))), some (.int (iN (is))), some (.int (iN ((k : Int)))), none, none] [] := by
    intro n
    induction n with
    | zero =>
      intro k is hmu
      exact absurd hmu (Nat.not_lt_zero _)
    | succ n ih =>
      intro k is hmu hk hN
      have his : is = 1 ∨ is = 0 := by rcases hN with ⟨q, -⟩ | ⟨q, -⟩ <;> omega
      refine z_iload_n cx dX5_isNearCut_4 rfl ?_
      refine z_aload_n cx dX5_isNearCut_5 rfl ?_
      refine g_X5_0 cx fl_X5_7 dX5_isNearCut_6 ?_
      refine z_bipush cx dX5_isNearCut_9 ?_
      refine z_iald cx (7) (by omega) (by omega) (co_s E _) dX5_isNearCut_11 ?_
      refine z_icmp_ge cx (tgt := 110) dX5_isNearCut_12 (fun h12 => ?_) (fun h12 => ?_)
      · skip
        refine z_iload_n cx dX5_isNearCut_110 rfl ?_
        refine z_zret cx dX5_isNearCut_111 ?_
        refine ⟨rfl, ?_⟩
        rcases hN with ⟨g1, i, g2, g3⟩ | ⟨g1, g2⟩
        · exact Or.inl ⟨g1, i, by omega, g3⟩
        · exact Or.inr ⟨g1, fun ⟨i, g3, g4⟩ => g2 i (by omega) g4⟩
      · skip
        have ec := hcu k (by omega)
        have hcb := hOc.2.1 k (by omega)
        refine z_aload_n cx dX5_isNearCut_15 rfl ?_
        refine g_X5_0 cx fl_X5_7 dX5_isNearCut_16 ?_
        refine z_bipush cx dX5_isNearCut_19 ?_
        refine z_iload_n cx dX5_isNearCut_21 rfl ?_
        refine z_iadd cx dX5_isNearCut_22 ?_
        refine z_iald cx (8 + k) (by omega) (by omega) (co_s E _) dX5_isNearCut_23 ?_
        rw [ec]
        refine z_istore cx dX5_isNearCut_24 ?_
        refine z_iload cx dX5_isNearCut_26 rfl ?_
        refine z_aload_n cx dX5_isNearCut_28 rfl ?_
        refine z_iload_n cx dX5_isNearCut_29 rfl ?_
        refine z_iconst cx dX5_isNearCut_30 ?_
        refine z_vi cx (c_X5_of (20 + 43 * i) (by omega) (by omega)) rfl mv_X5_of ml_X5_43 (by omega) (co_mod E _) rfl dX5_isNearCut_31 (fun z31 G31 hz31 => ?_)
        obtain ⟨eG, rfl⟩ := hz31
        have eG := eG.symm
        subst eG
        refine z_icmp_le cx (tgt := 52) dX5_isNearCut_34 (fun h34 => ?_) (fun h34 => ?_)
        · skip
          refine z_iconst cx dX5_isNearCut_52 ?_
          refine z_istore cx dX5_isNearCut_53 ?_
          refine z_iload_n cx dX5_isNearCut_55 rfl ?_
          refine z_if_ne cx (tgt := 98) dX5_isNearCut_56 (fun h56 => ?_) (fun h56 => ?_)
          · skip
            refine z_iconst cx dX5_isNearCut_98 ?_
            refine z_goto cx (tgt := 103) dX5_isNearCut_99 ?_
            refine z_istore_n cx dX5_isNearCut_103 ?_
            refine z_iinc cx dX5_isNearCut_104 rfl ?_
            refine z_goto cx (tgt := 4) dX5_isNearCut_107 ?_
            refine Z.locs (ih (k + 1) _ (by omega) (by omega) ?_) ⟨rfl, rfl, rfl, rfl, trivial⟩
            rcases hN with ⟨g1, i, g2, g3⟩ | ⟨g1, g2⟩
            · first
              | (exfalso; omega)
              | exact Or.inl ⟨rfl, i, by omega, g3⟩
            · first
              | (exfalso; omega)
              | exact Or.inl ⟨rfl, k, by omega, by omega, by omega, by omega⟩
              | exact Or.inr ⟨rfl, fun i h => by rcases Nat.lt_succ_iff_lt_or_eq.mp h with h | rfl; exact g2 i h; omega⟩
          · skip
            refine z_iload cx dX5_isNearCut_59 rfl ?_
            refine z_if_eq cx (tgt := 102) dX5_isNearCut_61 (fun h61 => ?_) (fun h61 => ?_)
            · skip
              refine z_iconst cx dX5_isNearCut_102 ?_
              refine z_istore_n cx dX5_isNearCut_103 ?_
              refine z_iinc cx dX5_isNearCut_104 rfl ?_
              refine z_goto cx (tgt := 4) dX5_isNearCut_107 ?_
              refine Z.locs (ih (k + 1) _ (by omega) (by omega) ?_) ⟨rfl, rfl, rfl, rfl, trivial⟩
              rcases hN with ⟨g1, i, g2, g3⟩ | ⟨g1, g2⟩
              · first
                | (exfalso; omega)
                | exact Or.inl ⟨rfl, i, by omega, g3⟩
              · first
                | (exfalso; omega)
                | exact Or.inl ⟨rfl, k, by omega, by omega, by omega, by omega⟩
                | exact Or.inr ⟨rfl, fun i h => by rcases Nat.lt_succ_iff_lt_or_eq.mp h with h | rfl; exact g2 i h; omega⟩
            · skip
              refine z_iload cx dX5_isNearCut_64 rfl ?_
              refine z_aload_n cx dX5_isNearCut_66 rfl ?_
              refine z_iload_n cx dX5_isNearCut_67 rfl ?_
              refine z_iconst cx dX5_isNearCut_68 ?_
              refine z_vi cx (c_X5_of (20 + 43 * i) (by omega) (by omega)) rfl mv_X5_of ml_X5_43 (by omega) (co_mod E _) rfl dX5_isNearCut_69 (fun z69 G69 hz69 => ?_)
              obtain ⟨eG, rfl⟩ := hz69
              have eG := eG.symm
              subst eG
              refine z_isub cx dX5_isNearCut_72 ?_
              refine z_aload_n cx dX5_isNearCut_73 rfl ?_
              refine z_iconst cx dX5_isNearCut_74 ?_
              refine z_vi cx (c_X5_its 6 rfl (by omega)) rfl mv_X5_its ml_X5_47 (by omega) (co_mod E _) rfl dX5_isNearCut_75 (fun z75 G75 hz75 => ?_)
              obtain ⟨eG, rfl⟩ := hz75
              have eG := eG.symm
              subst eG
              refine z_icmp_lt cx (tgt := 98) dX5_isNearCut_78 (fun h78 => ?_) (fun h78 => ?_)
              · skip
                refine z_iconst cx dX5_isNearCut_98 ?_
                refine z_goto cx (tgt := 103) dX5_isNearCut_99 ?_
                refine z_istore_n cx dX5_isNearCut_103 ?_
                refine z_iinc cx dX5_isNearCut_104 rfl ?_
                refine z_goto cx (tgt := 4) dX5_isNearCut_107 ?_
                refine Z.locs (ih (k + 1) _ (by omega) (by omega) ?_) ⟨rfl, rfl, rfl, rfl, trivial⟩
                rcases hN with ⟨g1, i, g2, g3⟩ | ⟨g1, g2⟩
                · first
                  | (exfalso; omega)
                  | exact Or.inl ⟨rfl, i, by omega, g3⟩
                · first
                  | (exfalso; omega)
                  | exact Or.inl ⟨rfl, k, by omega, by omega, by omega, by omega⟩
                  | exact Or.inr ⟨rfl, fun i h => by rcases Nat.lt_succ_iff_lt_or_eq.mp h with h | rfl; exact g2 i h; omega⟩
              · skip
                refine z_aload_n cx dX5_isNearCut_81 rfl ?_
                refine z_iload_n cx dX5_isNearCut_82 rfl ?_
                refine z_iconst cx dX5_isNearCut_83 ?_
                refine z_vi cx (c_X5_of (20 + 43 * i + 1) (by omega) (by omega)) rfl mv_X5_of ml_X5_43 (by omega) (co_mod E _) rfl dX5_isNearCut_84 (fun z84 G84 hz84 => ?_)
                obtain ⟨eG, rfl⟩ := hz84
                have eG := eG.symm
                subst eG
                refine z_iload cx dX5_isNearCut_87 rfl ?_
                refine z_isub cx dX5_isNearCut_89 ?_
                refine z_aload_n cx dX5_isNearCut_90 rfl ?_
                refine z_iconst cx dX5_isNearCut_91 ?_
                refine z_vi cx (c_X5_its 6 rfl (by omega)) rfl mv_X5_its ml_X5_47 (by omega) (co_mod E _) rfl dX5_isNearCut_92 (fun z92 G92 hz92 => ?_)
                obtain ⟨eG, rfl⟩ := hz92
                have eG := eG.symm
                subst eG
                refine z_icmp_ge cx (tgt := 102) dX5_isNearCut_95 (fun h95 => ?_) (fun h95 => ?_)
                · skip
                  refine z_iconst cx dX5_isNearCut_102 ?_
                  refine z_istore_n cx dX5_isNearCut_103 ?_
                  refine z_iinc cx dX5_isNearCut_104 rfl ?_
                  refine z_goto cx (tgt := 4) dX5_isNearCut_107 ?_
                  refine Z.locs (ih (k + 1) _ (by omega) (by omega) ?_) ⟨rfl, rfl, rfl, rfl, trivial⟩
                  rcases hN with ⟨g1, i, g2, g3⟩ | ⟨g1, g2⟩
                  · first
                    | (exfalso; omega)
                    | exact Or.inl ⟨rfl, i, by omega, g3⟩
                  · first
                    | (exfalso; omega)
                    | exact Or.inl ⟨rfl, k, by omega, by omega, by omega, by omega⟩
                    | exact Or.inr ⟨rfl, fun i h => by rcases Nat.lt_succ_iff_lt_or_eq.mp h with h | rfl; exact g2 i h; omega⟩
                · skip
                  refine z_iconst cx dX5_isNearCut_98 ?_
                  refine z_goto cx (tgt := 103) dX5_isNearCut_99 ?_
                  refine z_istore_n cx dX5_isNearCut_103 ?_
                  refine z_iinc cx dX5_isNearCut_104 rfl ?_
                  refine z_goto cx (tgt := 4) dX5_isNearCut_107 ?_
                  refine Z.locs (ih (k + 1) _ (by omega) (by omega) ?_) ⟨rfl, rfl, rfl, rfl, trivial⟩
                  rcases hN with ⟨g1, i, g2, g3⟩ | ⟨g1, g2⟩
                  · first
                    | (exfalso; omega)
                    | exact Or.inl ⟨rfl, i, by omega, g3⟩
                  · first
                    | (exfalso; omega)
                    | exact Or.inl ⟨rfl, k, by omega, by omega, by omega, by omega⟩
                    | exact Or.inr ⟨rfl, fun i h => by rcases Nat.lt_succ_iff_lt_or_eq.mp h with h | rfl; exact g2 i h; omega⟩
        · skip
          refine z_iload cx dX5_isNearCut_37 rfl ?_
          refine z_aload_n cx dX5_isNearCut_39 rfl ?_
          refine z_iload_n cx dX5_isNearCut_40 rfl ?_
          refine z_iconst cx dX5_isNearCut_41 ?_
          refine z_vi cx (c_X5_of (20 + 43 * i + 1) (by omega) (by omega)) rfl mv_X5_of ml_X5_43 (by omega) (co_mod E _) rfl dX5_isNearCut_42 (fun z42 G42 hz42 => ?_)
          obtain ⟨eG, rfl⟩ := hz42
          have eG := eG.symm
          subst eG
          refine z_icmp_ge cx (tgt := 52) dX5_isNearCut_45 (fun h45 => ?_) (fun h45 => ?_)
          · skip
            refine z_iconst cx dX5_isNearCut_52 ?_
            refine z_istore cx dX5_isNearCut_53 ?_
            refine z_iload_n cx dX5_isNearCut_55 rfl ?_
            refine z_if_ne cx (tgt := 98) dX5_isNearCut_56 (fun h56 => ?_) (fun h56 => ?_)
            · skip
              refine z_iconst cx dX5_isNearCut_98 ?_
              refine z_goto cx (tgt := 103) dX5_isNearCut_99 ?_
              refine z_istore_n cx dX5_isNearCut_103 ?_
              refine z_iinc cx dX5_isNearCut_104 rfl ?_
              refine z_goto cx (tgt := 4) dX5_isNearCut_107 ?_
              refine Z.locs (ih (k + 1) _ (by omega) (by omega) ?_) ⟨rfl, rfl, rfl, rfl, trivial⟩
              rcases hN with ⟨g1, i, g2, g3⟩ | ⟨g1, g2⟩
              · first
                | (exfalso; omega)
                | exact Or.inl ⟨rfl, i, by omega, g3⟩
              · first
                | (exfalso; omega)
                | exact Or.inl ⟨rfl, k, by omega, by omega, by omega, by omega⟩
                | exact Or.inr ⟨rfl, fun i h => by rcases Nat.lt_succ_iff_lt_or_eq.mp h with h | rfl; exact g2 i h; omega⟩
            · skip
              refine z_iload cx dX5_isNearCut_59 rfl ?_
              refine z_if_eq cx (tgt := 102) dX5_isNearCut_61 (fun h61 => ?_) (fun h61 => ?_)
              · skip
                refine z_iconst cx dX5_isNearCut_102 ?_
                refine z_istore_n cx dX5_isNearCut_103 ?_
                refine z_iinc cx dX5_isNearCut_104 rfl ?_
                refine z_goto cx (tgt := 4) dX5_isNearCut_107 ?_
                refine Z.locs (ih (k + 1) _ (by omega) (by omega) ?_) ⟨rfl, rfl, rfl, rfl, trivial⟩
                rcases hN with ⟨g1, i, g2, g3⟩ | ⟨g1, g2⟩
                · first
                  | (exfalso; omega)
                  | exact Or.inl ⟨rfl, i, by omega, g3⟩
                · first
                  | (exfalso; omega)
                  | exact Or.inl ⟨rfl, k, by omega, by omega, by omega, by omega⟩
                  | exact Or.inr ⟨rfl, fun i h => by rcases Nat.lt_succ_iff_lt_or_eq.mp h with h | rfl; exact g2 i h; omega⟩
              · skip
                refine z_iload cx dX5_isNearCut_64 rfl ?_
                refine z_aload_n cx dX5_isNearCut_66 rfl ?_
                refine z_iload_n cx dX5_isNearCut_67 rfl ?_
                refine z_iconst cx dX5_isNearCut_68 ?_
                refine z_vi cx (c_X5_of (20 + 43 * i) (by omega) (by omega)) rfl mv_X5_of ml_X5_43 (by omega) (co_mod E _) rfl dX5_isNearCut_69 (fun z69 G69 hz69 => ?_)
                obtain ⟨eG, rfl⟩ := hz69
                have eG := eG.symm
                subst eG
                refine z_isub cx dX5_isNearCut_72 ?_
                refine z_aload_n cx dX5_isNearCut_73 rfl ?_
                refine z_iconst cx dX5_isNearCut_74 ?_
                refine z_vi cx (c_X5_its 6 rfl (by omega)) rfl mv_X5_its ml_X5_47 (by omega) (co_mod E _) rfl dX5_isNearCut_75 (fun z75 G75 hz75 => ?_)
                obtain ⟨eG, rfl⟩ := hz75
                have eG := eG.symm
                subst eG
                refine z_icmp_lt cx (tgt := 98) dX5_isNearCut_78 (fun h78 => ?_) (fun h78 => ?_)
                · skip
                  refine z_iconst cx dX5_isNearCut_98 ?_
                  refine z_goto cx (tgt := 103) dX5_isNearCut_99 ?_
                  refine z_istore_n cx dX5_isNearCut_103 ?_
                  refine z_iinc cx dX5_isNearCut_104 rfl ?_
                  refine z_goto cx (tgt := 4) dX5_isNearCut_107 ?_
                  refine Z.locs (ih (k + 1) _ (by omega) (by omega) ?_) ⟨rfl, rfl, rfl, rfl, trivial⟩
                  rcases hN with ⟨g1, i, g2, g3⟩ | ⟨g1, g2⟩
                  · first
                    | (exfalso; omega)
                    | exact Or.inl ⟨rfl, i, by omega, g3⟩
                  · first
                    | (exfalso; omega)
                    | exact Or.inl ⟨rfl, k, by omega, by omega, by omega, by omega⟩
                    | exact Or.inr ⟨rfl, fun i h => by rcases Nat.lt_succ_iff_lt_or_eq.mp h with h | rfl; exact g2 i h; omega⟩
                · skip
                  refine z_aload_n cx dX5_isNearCut_81 rfl ?_
                  refine z_iload_n cx dX5_isNearCut_82 rfl ?_
                  refine z_iconst cx dX5_isNearCut_83 ?_
                  refine z_vi cx (c_X5_of (20 + 43 * i + 1) (by omega) (by omega)) rfl mv_X5_of ml_X5_43 (by omega) (co_mod E _) rfl dX5_isNearCut_84 (fun z84 G84 hz84 => ?_)
                  obtain ⟨eG, rfl⟩ := hz84
                  have eG := eG.symm
                  subst eG
                  refine z_iload cx dX5_isNearCut_87 rfl ?_
                  refine z_isub cx dX5_isNearCut_89 ?_
                  refine z_aload_n cx dX5_isNearCut_90 rfl ?_
                  refine z_iconst cx dX5_isNearCut_91 ?_
                  refine z_vi cx (c_X5_its 6 rfl (by omega)) rfl mv_X5_its ml_X5_47 (by omega) (co_mod E _) rfl dX5_isNearCut_92 (fun z92 G92 hz92 => ?_)
                  obtain ⟨eG, rfl⟩ := hz92
                  have eG := eG.symm
                  subst eG
                  refine z_icmp_ge cx (tgt := 102) dX5_isNearCut_95 (fun h95 => ?_) (fun h95 => ?_)
                  · skip
                    refine z_iconst cx dX5_isNearCut_102 ?_
                    refine z_istore_n cx dX5_isNearCut_103 ?_
                    refine z_iinc cx dX5_isNearCut_104 rfl ?_
                    refine z_goto cx (tgt := 4) dX5_isNearCut_107 ?_
                    refine Z.locs (ih (k + 1) _ (by omega) (by omega) ?_) ⟨rfl, rfl, rfl, rfl, trivial⟩
                    rcases hN with ⟨g1, i, g2, g3⟩ | ⟨g1, g2⟩
                    · first
                      | (exfalso; omega)
                      | exact Or.inl ⟨rfl, i, by omega, g3⟩
                    · first
                      | (exfalso; omega)
                      | exact Or.inl ⟨rfl, k, by omega, by omega, by omega, by omega⟩
                      | exact Or.inr ⟨rfl, fun i h => by rcases Nat.lt_succ_iff_lt_or_eq.mp h with h | rfl; exact g2 i h; omega⟩
                  · skip
                    refine z_iconst cx dX5_isNearCut_98 ?_
                    refine z_goto cx (tgt := 103) dX5_isNearCut_99 ?_
                    refine z_istore_n cx dX5_isNearCut_103 ?_
                    refine z_iinc cx dX5_isNearCut_104 rfl ?_
                    refine z_goto cx (tgt := 4) dX5_isNearCut_107 ?_
                    refine Z.locs (ih (k + 1) _ (by omega) (by omega) ?_) ⟨rfl, rfl, rfl, rfl, trivial⟩
                    rcases hN with ⟨g1, i, g2, g3⟩ | ⟨g1, g2⟩
                    · first
                      | (exfalso; omega)
                      | exact Or.inl ⟨rfl, i, by omega, g3⟩
                    · first
                      | (exfalso; omega)
                      | exact Or.inl ⟨rfl, k, by omega, by omega, by omega, by omega⟩
                      | exact Or.inr ⟨rfl, fun i h => by rcases Nat.lt_succ_iff_lt_or_eq.mp h with h | rfl; exact g2 i h; omega⟩
          · skip
            refine z_iconst cx dX5_isNearCut_48 ?_
            refine z_goto cx (tgt := 53) dX5_isNearCut_49 ?_
            refine z_istore cx dX5_isNearCut_53 ?_
            refine z_iload_n cx dX5_isNearCut_55 rfl ?_
            refine z_if_ne cx (tgt := 98) dX5_isNearCut_56 (fun h56 => ?_) (fun h56 => ?_)
            · skip
              refine z_iconst cx dX5_isNearCut_98 ?_
              refine z_goto cx (tgt := 103) dX5_isNearCut_99 ?_
              refine z_istore_n cx dX5_isNearCut_103 ?_
              refine z_iinc cx dX5_isNearCut_104 rfl ?_
              refine z_goto cx (tgt := 4) dX5_isNearCut_107 ?_
              refine Z.locs (ih (k + 1) _ (by omega) (by omega) ?_) ⟨rfl, rfl, rfl, rfl, trivial⟩
              rcases hN with ⟨g1, i, g2, g3⟩ | ⟨g1, g2⟩
              · first
                | (exfalso; omega)
                | exact Or.inl ⟨rfl, i, by omega, g3⟩
              · first
                | (exfalso; omega)
                | exact Or.inl ⟨rfl, k, by omega, by omega, by omega, by omega⟩
                | exact Or.inr ⟨rfl, fun i h => by rcases Nat.lt_succ_iff_lt_or_eq.mp h with h | rfl; exact g2 i h; omega⟩
            · skip
              refine z_iload cx dX5_isNearCut_59 rfl ?_
              refine z_if_eq cx (tgt := 102) dX5_isNearCut_61 (fun h61 => ?_) (fun h61 => ?_)
              · skip
                refine z_iconst cx dX5_isNearCut_102 ?_
                refine z_istore_n cx dX5_isNearCut_103 ?_
                refine z_iinc cx dX5_isNearCut_104 rfl ?_
                refine z_goto cx (tgt := 4) dX5_isNearCut_107 ?_
                refine Z.locs (ih (k + 1) _ (by omega) (by omega) ?_) ⟨rfl, rfl, rfl, rfl, trivial⟩
                rcases hN with ⟨g1, i, g2, g3⟩ | ⟨g1, g2⟩
                · first
                  | (exfalso; omega)
                  | exact Or.inl ⟨rfl, i, by omega, g3⟩
                · first
                  | (exfalso; omega)
                  | exact Or.inl ⟨rfl, k, by omega, by omega, by omega, by omega⟩
                  | exact Or.inr ⟨rfl, fun i h => by rcases Nat.lt_succ_iff_lt_or_eq.mp h with h | rfl; exact g2 i h; omega⟩
              · skip
                refine z_iload cx dX5_isNearCut_64 rfl ?_
                refine z_aload_n cx dX5_isNearCut_66 rfl ?_
                refine z_iload_n cx dX5_isNearCut_67 rfl ?_
                refine z_iconst cx dX5_isNearCut_68 ?_
                refine z_vi cx (c_X5_of (20 + 43 * i) (by omega) (by omega)) rfl mv_X5_of ml_X5_43 (by omega) (co_mod E _) rfl dX5_isNearCut_69 (fun z69 G69 hz69 => ?_)
                obtain ⟨eG, rfl⟩ := hz69
                have eG := eG.symm
                subst eG
                refine z_isub cx dX5_isNearCut_72 ?_
                refine z_aload_n cx dX5_isNearCut_73 rfl ?_
                refine z_iconst cx dX5_isNearCut_74 ?_
                refine z_vi cx (c_X5_its 6 rfl (by omega)) rfl mv_X5_its ml_X5_47 (by omega) (co_mod E _) rfl dX5_isNearCut_75 (fun z75 G75 hz75 => ?_)
                obtain ⟨eG, rfl⟩ := hz75
                have eG := eG.symm
                subst eG
                refine z_icmp_lt cx (tgt := 98) dX5_isNearCut_78 (fun h78 => ?_) (fun h78 => ?_)
                · skip
                  refine z_iconst cx dX5_isNearCut_98 ?_
                  refine z_goto cx (tgt := 103) dX5_isNearCut_99 ?_
                  refine z_istore_n cx dX5_isNearCut_103 ?_
                  refine z_iinc cx dX5_isNearCut_104 rfl ?_
                  refine z_goto cx (tgt := 4) dX5_isNearCut_107 ?_
                  refine Z.locs (ih (k + 1) _ (by omega) (by omega) ?_) ⟨rfl, rfl, rfl, rfl, trivial⟩
                  rcases hN with ⟨g1, i, g2, g3⟩ | ⟨g1, g2⟩
                  · first
                    | (exfalso; omega)
                    | exact Or.inl ⟨rfl, i, by omega, g3⟩
                  · first
                    | (exfalso; omega)
                    | exact Or.inl ⟨rfl, k, by omega, by omega, by omega, by omega⟩
                    | exact Or.inr ⟨rfl, fun i h => by rcases Nat.lt_succ_iff_lt_or_eq.mp h with h | rfl; exact g2 i h; omega⟩
                · skip
                  refine z_aload_n cx dX5_isNearCut_81 rfl ?_
                  refine z_iload_n cx dX5_isNearCut_82 rfl ?_
                  refine z_iconst cx dX5_isNearCut_83 ?_
                  refine z_vi cx (c_X5_of (20 + 43 * i + 1) (by omega) (by omega)) rfl mv_X5_of ml_X5_43 (by omega) (co_mod E _) rfl dX5_isNearCut_84 (fun z84 G84 hz84 => ?_)
                  obtain ⟨eG, rfl⟩ := hz84
                  have eG := eG.symm
                  subst eG
                  refine z_iload cx dX5_isNearCut_87 rfl ?_
                  refine z_isub cx dX5_isNearCut_89 ?_
                  refine z_aload_n cx dX5_isNearCut_90 rfl ?_
                  refine z_iconst cx dX5_isNearCut_91 ?_
                  refine z_vi cx (c_X5_its 6 rfl (by omega)) rfl mv_X5_its ml_X5_47 (by omega) (co_mod E _) rfl dX5_isNearCut_92 (fun z92 G92 hz92 => ?_)
                  obtain ⟨eG, rfl⟩ := hz92
                  have eG := eG.symm
                  subst eG
                  refine z_icmp_ge cx (tgt := 102) dX5_isNearCut_95 (fun h95 => ?_) (fun h95 => ?_)
                  · skip
                    refine z_iconst cx dX5_isNearCut_102 ?_
                    refine z_istore_n cx dX5_isNearCut_103 ?_
                    refine z_iinc cx dX5_isNearCut_104 rfl ?_
                    refine z_goto cx (tgt := 4) dX5_isNearCut_107 ?_
                    refine Z.locs (ih (k + 1) _ (by omega) (by omega) ?_) ⟨rfl, rfl, rfl, rfl, trivial⟩
                    rcases hN with ⟨g1, i, g2, g3⟩ | ⟨g1, g2⟩
                    · first
                      | (exfalso; omega)
                      | exact Or.inl ⟨rfl, i, by omega, g3⟩
                    · first
                      | (exfalso; omega)
                      | exact Or.inl ⟨rfl, k, by omega, by omega, by omega, by omega⟩
                      | exact Or.inr ⟨rfl, fun i h => by rcases Nat.lt_succ_iff_lt_or_eq.mp h with h | rfl; exact g2 i h; omega⟩
                  · skip
                    refine z_iconst cx dX5_isNearCut_98 ?_
                    refine z_goto cx (tgt := 103) dX5_isNearCut_99 ?_
                    refine z_istore_n cx dX5_isNearCut_103 ?_
                    refine z_iinc cx dX5_isNearCut_104 rfl ?_
                    refine z_goto cx (tgt := 4) dX5_isNearCut_107 ?_
                    refine Z.locs (ih (k + 1) _ (by omega) (by omega) ?_) ⟨rfl, rfl, rfl, rfl, trivial⟩
                    rcases hN with ⟨g1, i, g2, g3⟩ | ⟨g1, g2⟩
                    · first
                      | (exfalso; omega)
                      | exact Or.inl ⟨rfl, i, by omega, g3⟩
                    · first
                      | (exfalso; omega)
                      | exact Or.inl ⟨rfl, k, by omega, by omega, by omega, by omega⟩
                      | exact Or.inr ⟨rfl, fun i h => by rcases Nat.lt_succ_iff_lt_or_eq.mp h with h | rfl; exact g2 i h; omega⟩
  refine z_iconst cx dX5_isNearCut_0 ?_
  refine z_istore_n cx dX5_isNearCut_1 ?_
  refine z_iconst cx dX5_isNearCut_2 ?_
  refine z_istore_n cx dX5_isNearCut_3 ?_
  refine Z.locs (L4 _ (0) (0) (Nat.lt_succ_self _) (by omega) (Or.inr ⟨rfl, fun i h => absurd h (Nat.not_lt_zero _)⟩)) ⟨rfl, rfl, rfl, rfl, trivial⟩
set_option maxRecDepth 100000 in
set_option maxHeartbeats 4000000 in
theorem c_X5_laysLines {E : En} {G : Wd} {w : Int} {x : Int} {i : Nat} (hx : x = (i : Int)) {S : Sb} (hS : MSub (G 20 0) i S) (hT : SbOk S) (hi : i < 20) (hw : 0 ≤ w ∧ w ≤ 100) (v4 : G 20 0 5 = w) : Cti E yX5_laysLines cX5_laysLines 10 .int 2 44 [.ref (E.1 6), .int (iN (x))] G (fun z G' => z = ((lns S.2.2 w).length : Int) ∧ (∀ k, k < (lns S.2.2 w).length → G' 25 0 k = (lns S.2.2 w).getD k 0) ∧ ∀ f a i, ¬ (f = 25 ∧ a = 0) → G' f a i = G f a i) := by
  have t0 := hS.1
  have t1 := hS.2.1
  have t2 := hS.2.2.1
  have t3 := hS.2.2.2
  have o1 := hT.1
  have o2 := hT.2.1
  have o3 := hT.2.2.1
  have o4 := hT.2.2.2.1
  have o5 := hT.2.2.2.2.1
  have hTx := hT.2.2.2
  refine Cti.mk [some (.ref (E.1 6)), some (.int (iN (x))), none, none, none, none, none, none, none, none] (by decide) rfl (by intro v hv; simp only [List.mem_cons, List.not_mem_nil, or_false] at hv; rcases hv with rfl | rfl <;> rfl) (Nat.le_of_ble_eq_true rfl) ?_
  intro p l e s m args below meth c cx
  have L12 : ∀ (n : Nat) (a kc : Nat) (G1 : Wd), (60 - a) < n → (a ≤ S.2.2.length + 1 ∧ kc ≤ 41) → (LnAt S.2.2 w kc a) → (a < S.2.2.length → S.2.2.getD a 0 ≠ 32) → (∀ k, k < kc → G1 25 0 k = (lns S.2.2 w).getD k 0) → (∀ f a i, ¬ (f = 25 ∧ a = 0) → G1 f a i = G f a i) → Z p l e (zr 2 44) s m args below meth c 10 0 0 E (Qi_ E below args s (fun z G' => z = ((lns S.2.2 w).length : Int) ∧ (∀ k, k < (lns S.2.2 w).length → G' 25 0 k = (lns S.2.2 w).getD k 0) ∧ ∀ f a i, ¬ (f = 25 ∧ a = 0) → G' f a i = G f a i)) G1 12 [some (.ref (E.1 6)), some (.int (iN (x))), some (.int (iN ((kc : Int)))), some (.int (iN ((a : Int)))), some (.int (iN ((S.2.2.length : Int)))), none, none, none, none, none] [] := by
    intro n
    induction n with
    | zero =>
      intro a kc G1 hmu
      exact absurd hmu (Nat.not_lt_zero _)
    | succ n ih12 =>
      intro a kc G1 hmu ha hL hb hl hf
      have hLc := hL.1
      have L24 : ∀ (n : Nat) (en : Nat) (b : Int), (2 * (60 - en) + b.toNat) < n → (a < S.2.2.length) → (a ≤ en ∧ en ≤ S.2.2.length ∧ (b = 1 ∨ b = 0)) → ((b = 1 ∧ FitP S.2.2 w a en ∧ en < S.2.2.length) ∨ (b = 0 ∧ LE S.2.2 w a en)) → Z p l e (zr 2 44) s m args below meth c 10 0 0 E (Qi_ E below args s (fun z G' => z = ((lns S.2.2 w).length : Int) ∧ (∀ k, k < (lns S.2.2 w).length → G' 25 0 k = (lns S.2.2 w).getD k 0) ∧ ∀ f a i, ¬ (f = 25 ∧ a = 0) → G' f a i = G f a i)) G1 24 [some (.ref (E.1 6)), some (.int (iN (x))), some (.int (iN ((kc : Int)))), some (.int (iN ((a : Int)))), some (.int (iN ((S.2.2.length : Int)))), some (.int (iN ((en : Int)))), some (.int (iN (b))), none, none, none] [] := by
        intro n
        induction n with
        | zero =>
          intro en b hmu
          exact absurd hmu (Nat.not_lt_zero _)
        | succ n ih24 =>
          intro en b hmu haL hen hE
          have L49 : ∀ (n : Nat) (j wd : Nat), (60 - j) < n → (b = 1) → ((en = a ∧ wd = a) ∨ (en ≠ a ∧ wd = en + 1)) → (wd ≤ j ∧ j ≤ S.2.2.length) → (∀ q, wd ≤ q → q < j → S.2.2.getD q 0 ≠ 32) → Z p l e (zr 2 44) s m args below meth c 10 0 0 E (Qi_ E below args s (fun z G' => z = ((lns S.2.2 w).length : Int) ∧ (∀ k, k < (lns S.2.2 w).length → G' 25 0 k = (lns S.2.2 w).getD k 0) ∧ ∀ f a i, ¬ (f = 25 ∧ a = 0) → G' f a i = G f a i)) G1 49 [some (.ref (E.1 6)), some (.int (iN (x))), some (.int (iN ((kc : Int)))), some (.int (iN ((a : Int)))), some (.int (iN ((S.2.2.length : Int)))), some (.int (iN ((en : Int)))), some (.int (iN (b))), some (.int (iN ((wd : Int)))), some (.int (iN ((j : Int)))), none] [] := by
            intro n
            induction n with
            | zero =>
              intro j wd hmu
              exact absurd hmu (Nat.not_lt_zero _)
            | succ n ih49 =>
              intro j wd hmu hbb hwd hj hjn
              refine z_iload cx dX5_laysLines_49 rfl ?_
              refine z_iload cx dX5_laysLines_51 rfl ?_
              refine z_icmp_ge cx (tgt := 74) dX5_laysLines_53 (fun h53 => ?_) (fun h53 => ?_)
              · skip
                have hNX : NX S.2.2 wd j := ⟨hj.1, hj.2, hjn, by omega⟩
                have hE2 : FitP S.2.2 w a en := by
                  rcases hE with q | q
                  · exact q.2.1
                  · exfalso; omega
                have v41 : G1 20 0 5 = w := (hf 20 0 5 (by omega)).trans v4
                refine z_iload cx dX5_laysLines_74 rfl ?_
                refine z_iload_n cx dX5_laysLines_76 rfl ?_
                refine z_icmp_eq cx (tgt := 92) dX5_laysLines_77 (fun h77 => ?_) (fun h77 => ?_)
                · skip
                  refine z_iconst cx dX5_laysLines_92 ?_
                  refine z_goto cx (tgt := 97) dX5_laysLines_93 ?_
                  have hx1 : (en = a ∨ (j : Int) - a ≤ w) → _ := fun h => lx_fit haL (hb haL) hE2 hNX hwd h
                  have hgt : ¬ (en = a ∨ (j : Int) - a ≤ w) ∨ en < j := by
                    by_cases h : en = a ∨ (j : Int) - a ≤ w
                    · exact Or.inr (hx1 h).2.1
                    · exact Or.inl h
                  have hx2 : (en ≠ a ∧ w < (j : Int) - a) → LE S.2.2 w a en := fun h => lx_no hE2 hNX hwd h.1 h.2
                  refine z_istore cx dX5_laysLines_97 ?_
                  refine z_iload cx dX5_laysLines_99 rfl ?_
                  refine z_if_eq cx (tgt := 109) dX5_laysLines_101 (fun h101 => ?_) (fun h101 => ?_)
                  · skip
                    refine z_iload cx dX5_laysLines_109 rfl ?_
                    refine z_istore cx dX5_laysLines_111 ?_
                    refine z_iload cx dX5_laysLines_113 rfl ?_
                    refine z_if_eq cx (tgt := 129) dX5_laysLines_115 (fun h115 => ?_) (fun h115 => ?_)
                    · skip
                      refine z_iconst cx dX5_laysLines_129 ?_
                      refine z_istore cx dX5_laysLines_130 ?_
                      refine z_goto cx (tgt := 24) dX5_laysLines_132 ?_
                      refine Z.locs (ih24 _ _ (by omega) haL ?_ ?_) ⟨rfl, rfl, rfl, rfl, rfl, rfl, rfl, trivial⟩
                      all_goals first
                      | (exfalso; omega)
                      | omega
                      | exact Or.inl ⟨rfl, (hx1 (by omega)).2.2.1 (by omega), by omega⟩
                      | exact Or.inr ⟨rfl, (hx1 (by omega)).2.2.2 (by omega)⟩
                      | exact Or.inr ⟨rfl, hx2 (by omega)⟩
                    · skip
                      refine z_iload cx dX5_laysLines_118 rfl ?_
                      refine z_iload cx dX5_laysLines_120 rfl ?_
                      refine z_icmp_ge cx (tgt := 129) dX5_laysLines_122 (fun h122 => ?_) (fun h122 => ?_)
                      · skip
                        refine z_iconst cx dX5_laysLines_129 ?_
                        refine z_istore cx dX5_laysLines_130 ?_
                        refine z_goto cx (tgt := 24) dX5_laysLines_132 ?_
                        refine Z.locs (ih24 _ _ (by omega) haL ?_ ?_) ⟨rfl, rfl, rfl, rfl, rfl, rfl, rfl, trivial⟩
                        all_goals first
                        | (exfalso; omega)
                        | omega
                        | exact Or.inl ⟨rfl, (hx1 (by omega)).2.2.1 (by omega), by omega⟩
                        | exact Or.inr ⟨rfl, (hx1 (by omega)).2.2.2 (by omega)⟩
                        | exact Or.inr ⟨rfl, hx2 (by omega)⟩
                      · skip
                        refine z_iconst cx dX5_laysLines_125 ?_
                        refine z_goto cx (tgt := 130) dX5_laysLines_126 ?_
                        refine z_istore cx dX5_laysLines_130 ?_
                        refine z_goto cx (tgt := 24) dX5_laysLines_132 ?_
                        refine Z.locs (ih24 _ _ (by omega) haL ?_ ?_) ⟨rfl, rfl, rfl, rfl, rfl, rfl, rfl, trivial⟩
                        all_goals first
                        | (exfalso; omega)
                        | omega
                        | exact Or.inl ⟨rfl, (hx1 (by omega)).2.2.1 (by omega), by omega⟩
                        | exact Or.inr ⟨rfl, (hx1 (by omega)).2.2.2 (by omega)⟩
                        | exact Or.inr ⟨rfl, hx2 (by omega)⟩
                  · skip
                    refine z_iload cx dX5_laysLines_104 rfl ?_
                    refine z_goto cx (tgt := 111) dX5_laysLines_106 ?_
                    refine z_istore cx dX5_laysLines_111 ?_
                    refine z_iload cx dX5_laysLines_113 rfl ?_
                    refine z_if_eq cx (tgt := 129) dX5_laysLines_115 (fun h115 => ?_) (fun h115 => ?_)
                    · skip
                      refine z_iconst cx dX5_laysLines_129 ?_
                      refine z_istore cx dX5_laysLines_130 ?_
                      refine z_goto cx (tgt := 24) dX5_laysLines_132 ?_
                      refine Z.locs (ih24 _ _ (by omega) haL ?_ ?_) ⟨rfl, rfl, rfl, rfl, rfl, rfl, rfl, trivial⟩
                      all_goals first
                      | (exfalso; omega)
                      | omega
                      | exact Or.inl ⟨rfl, (hx1 (by omega)).2.2.1 (by omega), by omega⟩
                      | exact Or.inr ⟨rfl, (hx1 (by omega)).2.2.2 (by omega)⟩
                      | exact Or.inr ⟨rfl, hx2 (by omega)⟩
                    · skip
                      refine z_iload cx dX5_laysLines_118 rfl ?_
                      refine z_iload cx dX5_laysLines_120 rfl ?_
                      refine z_icmp_ge cx (tgt := 129) dX5_laysLines_122 (fun h122 => ?_) (fun h122 => ?_)
                      · skip
                        refine z_iconst cx dX5_laysLines_129 ?_
                        refine z_istore cx dX5_laysLines_130 ?_
                        refine z_goto cx (tgt := 24) dX5_laysLines_132 ?_
                        refine Z.locs (ih24 _ _ (by omega) haL ?_ ?_) ⟨rfl, rfl, rfl, rfl, rfl, rfl, rfl, trivial⟩
                        all_goals first
                        | (exfalso; omega)
                        | omega
                        | exact Or.inl ⟨rfl, (hx1 (by omega)).2.2.1 (by omega), by omega⟩
                        | exact Or.inr ⟨rfl, (hx1 (by omega)).2.2.2 (by omega)⟩
                        | exact Or.inr ⟨rfl, hx2 (by omega)⟩
                      · skip
                        refine z_iconst cx dX5_laysLines_125 ?_
                        refine z_goto cx (tgt := 130) dX5_laysLines_126 ?_
                        refine z_istore cx dX5_laysLines_130 ?_
                        refine z_goto cx (tgt := 24) dX5_laysLines_132 ?_
                        refine Z.locs (ih24 _ _ (by omega) haL ?_ ?_) ⟨rfl, rfl, rfl, rfl, rfl, rfl, rfl, trivial⟩
                        all_goals first
                        | (exfalso; omega)
                        | omega
                        | exact Or.inl ⟨rfl, (hx1 (by omega)).2.2.1 (by omega), by omega⟩
                        | exact Or.inr ⟨rfl, (hx1 (by omega)).2.2.2 (by omega)⟩
                        | exact Or.inr ⟨rfl, hx2 (by omega)⟩
                · skip
                  refine z_iload cx dX5_laysLines_80 rfl ?_
                  refine z_iload_n cx dX5_laysLines_82 rfl ?_
                  refine z_isub cx dX5_laysLines_83 ?_
                  refine z_aload_n cx dX5_laysLines_84 rfl ?_
                  refine z_iconst cx dX5_laysLines_85 ?_
                  refine z_vi cx (c_X5_its 5 rfl (by omega)) rfl mv_X5_its ml_X5_47 (by omega) (co_mod E _) rfl dX5_laysLines_86 (fun z86 G86 hz86 => ?_)
                  obtain ⟨eG, rfl⟩ := hz86
                  have eG := eG.symm
                  subst eG
                  refine z_icmp_gt cx (tgt := 96) dX5_laysLines_89 (fun h89 => ?_) (fun h89 => ?_)
                  · skip
                    refine z_iconst cx dX5_laysLines_96 ?_
                    have hx1 : (en = a ∨ (j : Int) - a ≤ w) → _ := fun h => lx_fit haL (hb haL) hE2 hNX hwd h
                    have hgt : ¬ (en = a ∨ (j : Int) - a ≤ w) ∨ en < j := by
                      by_cases h : en = a ∨ (j : Int) - a ≤ w
                      · exact Or.inr (hx1 h).2.1
                      · exact Or.inl h
                    have hx2 : (en ≠ a ∧ w < (j : Int) - a) → LE S.2.2 w a en := fun h => lx_no hE2 hNX hwd h.1 h.2
                    refine z_istore cx dX5_laysLines_97 ?_
                    refine z_iload cx dX5_laysLines_99 rfl ?_
                    refine z_if_eq cx (tgt := 109) dX5_laysLines_101 (fun h101 => ?_) (fun h101 => ?_)
                    · skip
                      refine z_iload cx dX5_laysLines_109 rfl ?_
                      refine z_istore cx dX5_laysLines_111 ?_
                      refine z_iload cx dX5_laysLines_113 rfl ?_
                      refine z_if_eq cx (tgt := 129) dX5_laysLines_115 (fun h115 => ?_) (fun h115 => ?_)
                      · skip
                        refine z_iconst cx dX5_laysLines_129 ?_
                        refine z_istore cx dX5_laysLines_130 ?_
                        refine z_goto cx (tgt := 24) dX5_laysLines_132 ?_
                        refine Z.locs (ih24 _ _ (by omega) haL ?_ ?_) ⟨rfl, rfl, rfl, rfl, rfl, rfl, rfl, trivial⟩
                        all_goals first
                        | (exfalso; omega)
                        | omega
                        | exact Or.inl ⟨rfl, (hx1 (by omega)).2.2.1 (by omega), by omega⟩
                        | exact Or.inr ⟨rfl, (hx1 (by omega)).2.2.2 (by omega)⟩
                        | exact Or.inr ⟨rfl, hx2 (by omega)⟩
                      · skip
                        refine z_iload cx dX5_laysLines_118 rfl ?_
                        refine z_iload cx dX5_laysLines_120 rfl ?_
                        refine z_icmp_ge cx (tgt := 129) dX5_laysLines_122 (fun h122 => ?_) (fun h122 => ?_)
                        · skip
                          refine z_iconst cx dX5_laysLines_129 ?_
                          refine z_istore cx dX5_laysLines_130 ?_
                          refine z_goto cx (tgt := 24) dX5_laysLines_132 ?_
                          refine Z.locs (ih24 _ _ (by omega) haL ?_ ?_) ⟨rfl, rfl, rfl, rfl, rfl, rfl, rfl, trivial⟩
                          all_goals first
                          | (exfalso; omega)
                          | omega
                          | exact Or.inl ⟨rfl, (hx1 (by omega)).2.2.1 (by omega), by omega⟩
                          | exact Or.inr ⟨rfl, (hx1 (by omega)).2.2.2 (by omega)⟩
                          | exact Or.inr ⟨rfl, hx2 (by omega)⟩
                        · skip
                          refine z_iconst cx dX5_laysLines_125 ?_
                          refine z_goto cx (tgt := 130) dX5_laysLines_126 ?_
                          refine z_istore cx dX5_laysLines_130 ?_
                          refine z_goto cx (tgt := 24) dX5_laysLines_132 ?_
                          refine Z.locs (ih24 _ _ (by omega) haL ?_ ?_) ⟨rfl, rfl, rfl, rfl, rfl, rfl, rfl, trivial⟩
                          all_goals first
                          | (exfalso; omega)
                          | omega
                          | exact Or.inl ⟨rfl, (hx1 (by omega)).2.2.1 (by omega), by omega⟩
                          | exact Or.inr ⟨rfl, (hx1 (by omega)).2.2.2 (by omega)⟩
                          | exact Or.inr ⟨rfl, hx2 (by omega)⟩
                    · skip
                      refine z_iload cx dX5_laysLines_104 rfl ?_
                      refine z_goto cx (tgt := 111) dX5_laysLines_106 ?_
                      refine z_istore cx dX5_laysLines_111 ?_
                      refine z_iload cx dX5_laysLines_113 rfl ?_
                      refine z_if_eq cx (tgt := 129) dX5_laysLines_115 (fun h115 => ?_) (fun h115 => ?_)
                      · skip
                        refine z_iconst cx dX5_laysLines_129 ?_
                        refine z_istore cx dX5_laysLines_130 ?_
                        refine z_goto cx (tgt := 24) dX5_laysLines_132 ?_
                        refine Z.locs (ih24 _ _ (by omega) haL ?_ ?_) ⟨rfl, rfl, rfl, rfl, rfl, rfl, rfl, trivial⟩
                        all_goals first
                        | (exfalso; omega)
                        | omega
                        | exact Or.inl ⟨rfl, (hx1 (by omega)).2.2.1 (by omega), by omega⟩
                        | exact Or.inr ⟨rfl, (hx1 (by omega)).2.2.2 (by omega)⟩
                        | exact Or.inr ⟨rfl, hx2 (by omega)⟩
                      · skip
                        refine z_iload cx dX5_laysLines_118 rfl ?_
                        refine z_iload cx dX5_laysLines_120 rfl ?_
                        refine z_icmp_ge cx (tgt := 129) dX5_laysLines_122 (fun h122 => ?_) (fun h122 => ?_)
                        · skip
                          refine z_iconst cx dX5_laysLines_129 ?_
                          refine z_istore cx dX5_laysLines_130 ?_
                          refine z_goto cx (tgt := 24) dX5_laysLines_132 ?_
                          refine Z.locs (ih24 _ _ (by omega) haL ?_ ?_) ⟨rfl, rfl, rfl, rfl, rfl, rfl, rfl, trivial⟩
                          all_goals first
                          | (exfalso; omega)
                          | omega
                          | exact Or.inl ⟨rfl, (hx1 (by omega)).2.2.1 (by omega), by omega⟩
                          | exact Or.inr ⟨rfl, (hx1 (by omega)).2.2.2 (by omega)⟩
                          | exact Or.inr ⟨rfl, hx2 (by omega)⟩
                        · skip
                          refine z_iconst cx dX5_laysLines_125 ?_
                          refine z_goto cx (tgt := 130) dX5_laysLines_126 ?_
                          refine z_istore cx dX5_laysLines_130 ?_
                          refine z_goto cx (tgt := 24) dX5_laysLines_132 ?_
                          refine Z.locs (ih24 _ _ (by omega) haL ?_ ?_) ⟨rfl, rfl, rfl, rfl, rfl, rfl, rfl, trivial⟩
                          all_goals first
                          | (exfalso; omega)
                          | omega
                          | exact Or.inl ⟨rfl, (hx1 (by omega)).2.2.1 (by omega), by omega⟩
                          | exact Or.inr ⟨rfl, (hx1 (by omega)).2.2.2 (by omega)⟩
                          | exact Or.inr ⟨rfl, hx2 (by omega)⟩
                  · skip
                    refine z_iconst cx dX5_laysLines_92 ?_
                    refine z_goto cx (tgt := 97) dX5_laysLines_93 ?_
                    have hx1 : (en = a ∨ (j : Int) - a ≤ w) → _ := fun h => lx_fit haL (hb haL) hE2 hNX hwd h
                    have hgt : ¬ (en = a ∨ (j : Int) - a ≤ w) ∨ en < j := by
                      by_cases h : en = a ∨ (j : Int) - a ≤ w
                      · exact Or.inr (hx1 h).2.1
                      · exact Or.inl h
                    have hx2 : (en ≠ a ∧ w < (j : Int) - a) → LE S.2.2 w a en := fun h => lx_no hE2 hNX hwd h.1 h.2
                    refine z_istore cx dX5_laysLines_97 ?_
                    refine z_iload cx dX5_laysLines_99 rfl ?_
                    refine z_if_eq cx (tgt := 109) dX5_laysLines_101 (fun h101 => ?_) (fun h101 => ?_)
                    · skip
                      refine z_iload cx dX5_laysLines_109 rfl ?_
                      refine z_istore cx dX5_laysLines_111 ?_
                      refine z_iload cx dX5_laysLines_113 rfl ?_
                      refine z_if_eq cx (tgt := 129) dX5_laysLines_115 (fun h115 => ?_) (fun h115 => ?_)
                      · skip
                        refine z_iconst cx dX5_laysLines_129 ?_
                        refine z_istore cx dX5_laysLines_130 ?_
                        refine z_goto cx (tgt := 24) dX5_laysLines_132 ?_
                        refine Z.locs (ih24 _ _ (by omega) haL ?_ ?_) ⟨rfl, rfl, rfl, rfl, rfl, rfl, rfl, trivial⟩
                        all_goals first
                        | (exfalso; omega)
                        | omega
                        | exact Or.inl ⟨rfl, (hx1 (by omega)).2.2.1 (by omega), by omega⟩
                        | exact Or.inr ⟨rfl, (hx1 (by omega)).2.2.2 (by omega)⟩
                        | exact Or.inr ⟨rfl, hx2 (by omega)⟩
                      · skip
                        refine z_iload cx dX5_laysLines_118 rfl ?_
                        refine z_iload cx dX5_laysLines_120 rfl ?_
                        refine z_icmp_ge cx (tgt := 129) dX5_laysLines_122 (fun h122 => ?_) (fun h122 => ?_)
                        · skip
                          refine z_iconst cx dX5_laysLines_129 ?_
                          refine z_istore cx dX5_laysLines_130 ?_
                          refine z_goto cx (tgt := 24) dX5_laysLines_132 ?_
                          refine Z.locs (ih24 _ _ (by omega) haL ?_ ?_) ⟨rfl, rfl, rfl, rfl, rfl, rfl, rfl, trivial⟩
                          all_goals first
                          | (exfalso; omega)
                          | omega
                          | exact Or.inl ⟨rfl, (hx1 (by omega)).2.2.1 (by omega), by omega⟩
                          | exact Or.inr ⟨rfl, (hx1 (by omega)).2.2.2 (by omega)⟩
                          | exact Or.inr ⟨rfl, hx2 (by omega)⟩
                        · skip
                          refine z_iconst cx dX5_laysLines_125 ?_
                          refine z_goto cx (tgt := 130) dX5_laysLines_126 ?_
                          refine z_istore cx dX5_laysLines_130 ?_
                          refine z_goto cx (tgt := 24) dX5_laysLines_132 ?_
                          refine Z.locs (ih24 _ _ (by omega) haL ?_ ?_) ⟨rfl, rfl, rfl, rfl, rfl, rfl, rfl, trivial⟩
                          all_goals first
                          | (exfalso; omega)
                          | omega
                          | exact Or.inl ⟨rfl, (hx1 (by omega)).2.2.1 (by omega), by omega⟩
                          | exact Or.inr ⟨rfl, (hx1 (by omega)).2.2.2 (by omega)⟩
                          | exact Or.inr ⟨rfl, hx2 (by omega)⟩
                    · skip
                      refine z_iload cx dX5_laysLines_104 rfl ?_
                      refine z_goto cx (tgt := 111) dX5_laysLines_106 ?_
                      refine z_istore cx dX5_laysLines_111 ?_
                      refine z_iload cx dX5_laysLines_113 rfl ?_
                      refine z_if_eq cx (tgt := 129) dX5_laysLines_115 (fun h115 => ?_) (fun h115 => ?_)
                      · skip
                        refine z_iconst cx dX5_laysLines_129 ?_
                        refine z_istore cx dX5_laysLines_130 ?_
                        refine z_goto cx (tgt := 24) dX5_laysLines_132 ?_
                        refine Z.locs (ih24 _ _ (by omega) haL ?_ ?_) ⟨rfl, rfl, rfl, rfl, rfl, rfl, rfl, trivial⟩
                        all_goals first
                        | (exfalso; omega)
                        | omega
                        | exact Or.inl ⟨rfl, (hx1 (by omega)).2.2.1 (by omega), by omega⟩
                        | exact Or.inr ⟨rfl, (hx1 (by omega)).2.2.2 (by omega)⟩
                        | exact Or.inr ⟨rfl, hx2 (by omega)⟩
                      · skip
                        refine z_iload cx dX5_laysLines_118 rfl ?_
                        refine z_iload cx dX5_laysLines_120 rfl ?_
                        refine z_icmp_ge cx (tgt := 129) dX5_laysLines_122 (fun h122 => ?_) (fun h122 => ?_)
                        · skip
                          refine z_iconst cx dX5_laysLines_129 ?_
                          refine z_istore cx dX5_laysLines_130 ?_
                          refine z_goto cx (tgt := 24) dX5_laysLines_132 ?_
                          refine Z.locs (ih24 _ _ (by omega) haL ?_ ?_) ⟨rfl, rfl, rfl, rfl, rfl, rfl, rfl, trivial⟩
                          all_goals first
                          | (exfalso; omega)
                          | omega
                          | exact Or.inl ⟨rfl, (hx1 (by omega)).2.2.1 (by omega), by omega⟩
                          | exact Or.inr ⟨rfl, (hx1 (by omega)).2.2.2 (by omega)⟩
                          | exact Or.inr ⟨rfl, hx2 (by omega)⟩
                        · skip
                          refine z_iconst cx dX5_laysLines_125 ?_
                          refine z_goto cx (tgt := 130) dX5_laysLines_126 ?_
                          refine z_istore cx dX5_laysLines_130 ?_
                          refine z_goto cx (tgt := 24) dX5_laysLines_132 ?_
                          refine Z.locs (ih24 _ _ (by omega) haL ?_ ?_) ⟨rfl, rfl, rfl, rfl, rfl, rfl, rfl, trivial⟩
                          all_goals first
                          | (exfalso; omega)
                          | omega
                          | exact Or.inl ⟨rfl, (hx1 (by omega)).2.2.1 (by omega), by omega⟩
                          | exact Or.inr ⟨rfl, (hx1 (by omega)).2.2.2 (by omega)⟩
                          | exact Or.inr ⟨rfl, hx2 (by omega)⟩
              · skip
                refine z_aload_n cx dX5_laysLines_56 rfl ?_
                refine z_iload_n cx dX5_laysLines_57 rfl ?_
                have e8 := t3 j (by omega)
                have h8b := hTx.ch (i := j) (by omega)
                have g8 : G1 20 0 (20 + 43 * i + 3 + j) = G 20 0 (20 + 43 * i + 3 + j) := hf 20 0 _ (by omega)
                refine z_iload cx dX5_laysLines_58 rfl ?_
                refine z_vi cx (c_X5_letter (20 + 43 * i + 3 + j) (by omega) (by omega)) rfl mv_X5_letter ml_X5_59 (by omega) (co_mod E _) rfl dX5_laysLines_60 (fun z60 G60 hz60 => ?_)
                obtain ⟨eG, rfl⟩ := hz60
                have eG := eG.symm
                subst eG
                refine z_bipush cx dX5_laysLines_63 ?_
                refine z_icmp_eq cx (tgt := 74) dX5_laysLines_65 (fun h65 => ?_) (fun h65 => ?_)
                · skip
                  have hNX : NX S.2.2 wd j := ⟨hj.1, hj.2, hjn, by omega⟩
                  have hE2 : FitP S.2.2 w a en := by
                    rcases hE with q | q
                    · exact q.2.1
                    · exfalso; omega
                  have v41 : G1 20 0 5 = w := (hf 20 0 5 (by omega)).trans v4
                  refine z_iload cx dX5_laysLines_74 rfl ?_
                  refine z_iload_n cx dX5_laysLines_76 rfl ?_
                  refine z_icmp_eq cx (tgt := 92) dX5_laysLines_77 (fun h77 => ?_) (fun h77 => ?_)
                  · skip
                    refine z_iconst cx dX5_laysLines_92 ?_
                    refine z_goto cx (tgt := 97) dX5_laysLines_93 ?_
                    have hx1 : (en = a ∨ (j : Int) - a ≤ w) → _ := fun h => lx_fit haL (hb haL) hE2 hNX hwd h
                    have hgt : ¬ (en = a ∨ (j : Int) - a ≤ w) ∨ en < j := by
                      by_cases h : en = a ∨ (j : Int) - a ≤ w
                      · exact Or.inr (hx1 h).2.1
                      · exact Or.inl h
                    have hx2 : (en ≠ a ∧ w < (j : Int) - a) → LE S.2.2 w a en := fun h => lx_no hE2 hNX hwd h.1 h.2
                    refine z_istore cx dX5_laysLines_97 ?_
                    refine z_iload cx dX5_laysLines_99 rfl ?_
                    refine z_if_eq cx (tgt := 109) dX5_laysLines_101 (fun h101 => ?_) (fun h101 => ?_)
                    · skip
                      refine z_iload cx dX5_laysLines_109 rfl ?_
                      refine z_istore cx dX5_laysLines_111 ?_
                      refine z_iload cx dX5_laysLines_113 rfl ?_
                      refine z_if_eq cx (tgt := 129) dX5_laysLines_115 (fun h115 => ?_) (fun h115 => ?_)
                      · skip
                        refine z_iconst cx dX5_laysLines_129 ?_
                        refine z_istore cx dX5_laysLines_130 ?_
                        refine z_goto cx (tgt := 24) dX5_laysLines_132 ?_
                        refine Z.locs (ih24 _ _ (by omega) haL ?_ ?_) ⟨rfl, rfl, rfl, rfl, rfl, rfl, rfl, trivial⟩
                        all_goals first
                        | (exfalso; omega)
                        | omega
                        | exact Or.inl ⟨rfl, (hx1 (by omega)).2.2.1 (by omega), by omega⟩
                        | exact Or.inr ⟨rfl, (hx1 (by omega)).2.2.2 (by omega)⟩
                        | exact Or.inr ⟨rfl, hx2 (by omega)⟩
                      · skip
                        refine z_iload cx dX5_laysLines_118 rfl ?_
                        refine z_iload cx dX5_laysLines_120 rfl ?_
                        refine z_icmp_ge cx (tgt := 129) dX5_laysLines_122 (fun h122 => ?_) (fun h122 => ?_)
                        · skip
                          refine z_iconst cx dX5_laysLines_129 ?_
                          refine z_istore cx dX5_laysLines_130 ?_
                          refine z_goto cx (tgt := 24) dX5_laysLines_132 ?_
                          refine Z.locs (ih24 _ _ (by omega) haL ?_ ?_) ⟨rfl, rfl, rfl, rfl, rfl, rfl, rfl, trivial⟩
                          all_goals first
                          | (exfalso; omega)
                          | omega
                          | exact Or.inl ⟨rfl, (hx1 (by omega)).2.2.1 (by omega), by omega⟩
                          | exact Or.inr ⟨rfl, (hx1 (by omega)).2.2.2 (by omega)⟩
                          | exact Or.inr ⟨rfl, hx2 (by omega)⟩
                        · skip
                          refine z_iconst cx dX5_laysLines_125 ?_
                          refine z_goto cx (tgt := 130) dX5_laysLines_126 ?_
                          refine z_istore cx dX5_laysLines_130 ?_
                          refine z_goto cx (tgt := 24) dX5_laysLines_132 ?_
                          refine Z.locs (ih24 _ _ (by omega) haL ?_ ?_) ⟨rfl, rfl, rfl, rfl, rfl, rfl, rfl, trivial⟩
                          all_goals first
                          | (exfalso; omega)
                          | omega
                          | exact Or.inl ⟨rfl, (hx1 (by omega)).2.2.1 (by omega), by omega⟩
                          | exact Or.inr ⟨rfl, (hx1 (by omega)).2.2.2 (by omega)⟩
                          | exact Or.inr ⟨rfl, hx2 (by omega)⟩
                    · skip
                      refine z_iload cx dX5_laysLines_104 rfl ?_
                      refine z_goto cx (tgt := 111) dX5_laysLines_106 ?_
                      refine z_istore cx dX5_laysLines_111 ?_
                      refine z_iload cx dX5_laysLines_113 rfl ?_
                      refine z_if_eq cx (tgt := 129) dX5_laysLines_115 (fun h115 => ?_) (fun h115 => ?_)
                      · skip
                        refine z_iconst cx dX5_laysLines_129 ?_
                        refine z_istore cx dX5_laysLines_130 ?_
                        refine z_goto cx (tgt := 24) dX5_laysLines_132 ?_
                        refine Z.locs (ih24 _ _ (by omega) haL ?_ ?_) ⟨rfl, rfl, rfl, rfl, rfl, rfl, rfl, trivial⟩
                        all_goals first
                        | (exfalso; omega)
                        | omega
                        | exact Or.inl ⟨rfl, (hx1 (by omega)).2.2.1 (by omega), by omega⟩
                        | exact Or.inr ⟨rfl, (hx1 (by omega)).2.2.2 (by omega)⟩
                        | exact Or.inr ⟨rfl, hx2 (by omega)⟩
                      · skip
                        refine z_iload cx dX5_laysLines_118 rfl ?_
                        refine z_iload cx dX5_laysLines_120 rfl ?_
                        refine z_icmp_ge cx (tgt := 129) dX5_laysLines_122 (fun h122 => ?_) (fun h122 => ?_)
                        · skip
                          refine z_iconst cx dX5_laysLines_129 ?_
                          refine z_istore cx dX5_laysLines_130 ?_
                          refine z_goto cx (tgt := 24) dX5_laysLines_132 ?_
                          refine Z.locs (ih24 _ _ (by omega) haL ?_ ?_) ⟨rfl, rfl, rfl, rfl, rfl, rfl, rfl, trivial⟩
                          all_goals first
                          | (exfalso; omega)
                          | omega
                          | exact Or.inl ⟨rfl, (hx1 (by omega)).2.2.1 (by omega), by omega⟩
                          | exact Or.inr ⟨rfl, (hx1 (by omega)).2.2.2 (by omega)⟩
                          | exact Or.inr ⟨rfl, hx2 (by omega)⟩
                        · skip
                          refine z_iconst cx dX5_laysLines_125 ?_
                          refine z_goto cx (tgt := 130) dX5_laysLines_126 ?_
                          refine z_istore cx dX5_laysLines_130 ?_
                          refine z_goto cx (tgt := 24) dX5_laysLines_132 ?_
                          refine Z.locs (ih24 _ _ (by omega) haL ?_ ?_) ⟨rfl, rfl, rfl, rfl, rfl, rfl, rfl, trivial⟩
                          all_goals first
                          | (exfalso; omega)
                          | omega
                          | exact Or.inl ⟨rfl, (hx1 (by omega)).2.2.1 (by omega), by omega⟩
                          | exact Or.inr ⟨rfl, (hx1 (by omega)).2.2.2 (by omega)⟩
                          | exact Or.inr ⟨rfl, hx2 (by omega)⟩
                  · skip
                    refine z_iload cx dX5_laysLines_80 rfl ?_
                    refine z_iload_n cx dX5_laysLines_82 rfl ?_
                    refine z_isub cx dX5_laysLines_83 ?_
                    refine z_aload_n cx dX5_laysLines_84 rfl ?_
                    refine z_iconst cx dX5_laysLines_85 ?_
                    refine z_vi cx (c_X5_its 5 rfl (by omega)) rfl mv_X5_its ml_X5_47 (by omega) (co_mod E _) rfl dX5_laysLines_86 (fun z86 G86 hz86 => ?_)
                    obtain ⟨eG, rfl⟩ := hz86
                    have eG := eG.symm
                    subst eG
                    refine z_icmp_gt cx (tgt := 96) dX5_laysLines_89 (fun h89 => ?_) (fun h89 => ?_)
                    · skip
                      refine z_iconst cx dX5_laysLines_96 ?_
                      have hx1 : (en = a ∨ (j : Int) - a ≤ w) → _ := fun h => lx_fit haL (hb haL) hE2 hNX hwd h
                      have hgt : ¬ (en = a ∨ (j : Int) - a ≤ w) ∨ en < j := by
                        by_cases h : en = a ∨ (j : Int) - a ≤ w
                        · exact Or.inr (hx1 h).2.1
                        · exact Or.inl h
                      have hx2 : (en ≠ a ∧ w < (j : Int) - a) → LE S.2.2 w a en := fun h => lx_no hE2 hNX hwd h.1 h.2
                      refine z_istore cx dX5_laysLines_97 ?_
                      refine z_iload cx dX5_laysLines_99 rfl ?_
                      refine z_if_eq cx (tgt := 109) dX5_laysLines_101 (fun h101 => ?_) (fun h101 => ?_)
                      · skip
                        refine z_iload cx dX5_laysLines_109 rfl ?_
                        refine z_istore cx dX5_laysLines_111 ?_
                        refine z_iload cx dX5_laysLines_113 rfl ?_
                        refine z_if_eq cx (tgt := 129) dX5_laysLines_115 (fun h115 => ?_) (fun h115 => ?_)
                        · skip
                          refine z_iconst cx dX5_laysLines_129 ?_
                          refine z_istore cx dX5_laysLines_130 ?_
                          refine z_goto cx (tgt := 24) dX5_laysLines_132 ?_
                          refine Z.locs (ih24 _ _ (by omega) haL ?_ ?_) ⟨rfl, rfl, rfl, rfl, rfl, rfl, rfl, trivial⟩
                          all_goals first
                          | (exfalso; omega)
                          | omega
                          | exact Or.inl ⟨rfl, (hx1 (by omega)).2.2.1 (by omega), by omega⟩
                          | exact Or.inr ⟨rfl, (hx1 (by omega)).2.2.2 (by omega)⟩
                          | exact Or.inr ⟨rfl, hx2 (by omega)⟩
                        · skip
                          refine z_iload cx dX5_laysLines_118 rfl ?_
                          refine z_iload cx dX5_laysLines_120 rfl ?_
                          refine z_icmp_ge cx (tgt := 129) dX5_laysLines_122 (fun h122 => ?_) (fun h122 => ?_)
                          · skip
                            refine z_iconst cx dX5_laysLines_129 ?_
                            refine z_istore cx dX5_laysLines_130 ?_
                            refine z_goto cx (tgt := 24) dX5_laysLines_132 ?_
                            refine Z.locs (ih24 _ _ (by omega) haL ?_ ?_) ⟨rfl, rfl, rfl, rfl, rfl, rfl, rfl, trivial⟩
                            all_goals first
                            | (exfalso; omega)
                            | omega
                            | exact Or.inl ⟨rfl, (hx1 (by omega)).2.2.1 (by omega), by omega⟩
                            | exact Or.inr ⟨rfl, (hx1 (by omega)).2.2.2 (by omega)⟩
                            | exact Or.inr ⟨rfl, hx2 (by omega)⟩
                          · skip
                            refine z_iconst cx dX5_laysLines_125 ?_
                            refine z_goto cx (tgt := 130) dX5_laysLines_126 ?_
                            refine z_istore cx dX5_laysLines_130 ?_
                            refine z_goto cx (tgt := 24) dX5_laysLines_132 ?_
                            refine Z.locs (ih24 _ _ (by omega) haL ?_ ?_) ⟨rfl, rfl, rfl, rfl, rfl, rfl, rfl, trivial⟩
                            all_goals first
                            | (exfalso; omega)
                            | omega
                            | exact Or.inl ⟨rfl, (hx1 (by omega)).2.2.1 (by omega), by omega⟩
                            | exact Or.inr ⟨rfl, (hx1 (by omega)).2.2.2 (by omega)⟩
                            | exact Or.inr ⟨rfl, hx2 (by omega)⟩
                      · skip
                        refine z_iload cx dX5_laysLines_104 rfl ?_
                        refine z_goto cx (tgt := 111) dX5_laysLines_106 ?_
                        refine z_istore cx dX5_laysLines_111 ?_
                        refine z_iload cx dX5_laysLines_113 rfl ?_
                        refine z_if_eq cx (tgt := 129) dX5_laysLines_115 (fun h115 => ?_) (fun h115 => ?_)
                        · skip
                          refine z_iconst cx dX5_laysLines_129 ?_
                          refine z_istore cx dX5_laysLines_130 ?_
                          refine z_goto cx (tgt := 24) dX5_laysLines_132 ?_
                          refine Z.locs (ih24 _ _ (by omega) haL ?_ ?_) ⟨rfl, rfl, rfl, rfl, rfl, rfl, rfl, trivial⟩
                          all_goals first
                          | (exfalso; omega)
                          | omega
                          | exact Or.inl ⟨rfl, (hx1 (by omega)).2.2.1 (by omega), by omega⟩
                          | exact Or.inr ⟨rfl, (hx1 (by omega)).2.2.2 (by omega)⟩
                          | exact Or.inr ⟨rfl, hx2 (by omega)⟩
                        · skip
                          refine z_iload cx dX5_laysLines_118 rfl ?_
                          refine z_iload cx dX5_laysLines_120 rfl ?_
                          refine z_icmp_ge cx (tgt := 129) dX5_laysLines_122 (fun h122 => ?_) (fun h122 => ?_)
                          · skip
                            refine z_iconst cx dX5_laysLines_129 ?_
                            refine z_istore cx dX5_laysLines_130 ?_
                            refine z_goto cx (tgt := 24) dX5_laysLines_132 ?_
                            refine Z.locs (ih24 _ _ (by omega) haL ?_ ?_) ⟨rfl, rfl, rfl, rfl, rfl, rfl, rfl, trivial⟩
                            all_goals first
                            | (exfalso; omega)
                            | omega
                            | exact Or.inl ⟨rfl, (hx1 (by omega)).2.2.1 (by omega), by omega⟩
                            | exact Or.inr ⟨rfl, (hx1 (by omega)).2.2.2 (by omega)⟩
                            | exact Or.inr ⟨rfl, hx2 (by omega)⟩
                          · skip
                            refine z_iconst cx dX5_laysLines_125 ?_
                            refine z_goto cx (tgt := 130) dX5_laysLines_126 ?_
                            refine z_istore cx dX5_laysLines_130 ?_
                            refine z_goto cx (tgt := 24) dX5_laysLines_132 ?_
                            refine Z.locs (ih24 _ _ (by omega) haL ?_ ?_) ⟨rfl, rfl, rfl, rfl, rfl, rfl, rfl, trivial⟩
                            all_goals first
                            | (exfalso; omega)
                            | omega
                            | exact Or.inl ⟨rfl, (hx1 (by omega)).2.2.1 (by omega), by omega⟩
                            | exact Or.inr ⟨rfl, (hx1 (by omega)).2.2.2 (by omega)⟩
                            | exact Or.inr ⟨rfl, hx2 (by omega)⟩
                    · skip
                      refine z_iconst cx dX5_laysLines_92 ?_
                      refine z_goto cx (tgt := 97) dX5_laysLines_93 ?_
                      have hx1 : (en = a ∨ (j : Int) - a ≤ w) → _ := fun h => lx_fit haL (hb haL) hE2 hNX hwd h
                      have hgt : ¬ (en = a ∨ (j : Int) - a ≤ w) ∨ en < j := by
                        by_cases h : en = a ∨ (j : Int) - a ≤ w
                        · exact Or.inr (hx1 h).2.1
                        · exact Or.inl h
                      have hx2 : (en ≠ a ∧ w < (j : Int) - a) → LE S.2.2 w a en := fun h => lx_no hE2 hNX hwd h.1 h.2
                      refine z_istore cx dX5_laysLines_97 ?_
                      refine z_iload cx dX5_laysLines_99 rfl ?_
                      refine z_if_eq cx (tgt := 109) dX5_laysLines_101 (fun h101 => ?_) (fun h101 => ?_)
                      · skip
                        refine z_iload cx dX5_laysLines_109 rfl ?_
                        refine z_istore cx dX5_laysLines_111 ?_
                        refine z_iload cx dX5_laysLines_113 rfl ?_
                        refine z_if_eq cx (tgt := 129) dX5_laysLines_115 (fun h115 => ?_) (fun h115 => ?_)
                        · skip
                          refine z_iconst cx dX5_laysLines_129 ?_
                          refine z_istore cx dX5_laysLines_130 ?_
                          refine z_goto cx (tgt := 24) dX5_laysLines_132 ?_
                          refine Z.locs (ih24 _ _ (by omega) haL ?_ ?_) ⟨rfl, rfl, rfl, rfl, rfl, rfl, rfl, trivial⟩
                          all_goals first
                          | (exfalso; omega)
                          | omega
                          | exact Or.inl ⟨rfl, (hx1 (by omega)).2.2.1 (by omega), by omega⟩
                          | exact Or.inr ⟨rfl, (hx1 (by omega)).2.2.2 (by omega)⟩
                          | exact Or.inr ⟨rfl, hx2 (by omega)⟩
                        · skip
                          refine z_iload cx dX5_laysLines_118 rfl ?_
                          refine z_iload cx dX5_laysLines_120 rfl ?_
                          refine z_icmp_ge cx (tgt := 129) dX5_laysLines_122 (fun h122 => ?_) (fun h122 => ?_)
                          · skip
                            refine z_iconst cx dX5_laysLines_129 ?_
                            refine z_istore cx dX5_laysLines_130 ?_
                            refine z_goto cx (tgt := 24) dX5_laysLines_132 ?_
                            refine Z.locs (ih24 _ _ (by omega) haL ?_ ?_) ⟨rfl, rfl, rfl, rfl, rfl, rfl, rfl, trivial⟩
                            all_goals first
                            | (exfalso; omega)
                            | omega
                            | exact Or.inl ⟨rfl, (hx1 (by omega)).2.2.1 (by omega), by omega⟩
                            | exact Or.inr ⟨rfl, (hx1 (by omega)).2.2.2 (by omega)⟩
                            | exact Or.inr ⟨rfl, hx2 (by omega)⟩
                          · skip
                            refine z_iconst cx dX5_laysLines_125 ?_
                            refine z_goto cx (tgt := 130) dX5_laysLines_126 ?_
                            refine z_istore cx dX5_laysLines_130 ?_
                            refine z_goto cx (tgt := 24) dX5_laysLines_132 ?_
                            refine Z.locs (ih24 _ _ (by omega) haL ?_ ?_) ⟨rfl, rfl, rfl, rfl, rfl, rfl, rfl, trivial⟩
                            all_goals first
                            | (exfalso; omega)
                            | omega
                            | exact Or.inl ⟨rfl, (hx1 (by omega)).2.2.1 (by omega), by omega⟩
                            | exact Or.inr ⟨rfl, (hx1 (by omega)).2.2.2 (by omega)⟩
                            | exact Or.inr ⟨rfl, hx2 (by omega)⟩
                      · skip
                        refine z_iload cx dX5_laysLines_104 rfl ?_
                        refine z_goto cx (tgt := 111) dX5_laysLines_106 ?_
                        refine z_istore cx dX5_laysLines_111 ?_
                        refine z_iload cx dX5_laysLines_113 rfl ?_
                        refine z_if_eq cx (tgt := 129) dX5_laysLines_115 (fun h115 => ?_) (fun h115 => ?_)
                        · skip
                          refine z_iconst cx dX5_laysLines_129 ?_
                          refine z_istore cx dX5_laysLines_130 ?_
                          refine z_goto cx (tgt := 24) dX5_laysLines_132 ?_
                          refine Z.locs (ih24 _ _ (by omega) haL ?_ ?_) ⟨rfl, rfl, rfl, rfl, rfl, rfl, rfl, trivial⟩
                          all_goals first
                          | (exfalso; omega)
                          | omega
                          | exact Or.inl ⟨rfl, (hx1 (by omega)).2.2.1 (by omega), by omega⟩
                          | exact Or.inr ⟨rfl, (hx1 (by omega)).2.2.2 (by omega)⟩
                          | exact Or.inr ⟨rfl, hx2 (by omega)⟩
                        · skip
                          refine z_iload cx dX5_laysLines_118 rfl ?_
                          refine z_iload cx dX5_laysLines_120 rfl ?_
                          refine z_icmp_ge cx (tgt := 129) dX5_laysLines_122 (fun h122 => ?_) (fun h122 => ?_)
                          · skip
                            refine z_iconst cx dX5_laysLines_129 ?_
                            refine z_istore cx dX5_laysLines_130 ?_
                            refine z_goto cx (tgt := 24) dX5_laysLines_132 ?_
                            refine Z.locs (ih24 _ _ (by omega) haL ?_ ?_) ⟨rfl, rfl, rfl, rfl, rfl, rfl, rfl, trivial⟩
                            all_goals first
                            | (exfalso; omega)
                            | omega
                            | exact Or.inl ⟨rfl, (hx1 (by omega)).2.2.1 (by omega), by omega⟩
                            | exact Or.inr ⟨rfl, (hx1 (by omega)).2.2.2 (by omega)⟩
                            | exact Or.inr ⟨rfl, hx2 (by omega)⟩
                          · skip
                            refine z_iconst cx dX5_laysLines_125 ?_
                            refine z_goto cx (tgt := 130) dX5_laysLines_126 ?_
                            refine z_istore cx dX5_laysLines_130 ?_
                            refine z_goto cx (tgt := 24) dX5_laysLines_132 ?_
                            refine Z.locs (ih24 _ _ (by omega) haL ?_ ?_) ⟨rfl, rfl, rfl, rfl, rfl, rfl, rfl, trivial⟩
                            all_goals first
                            | (exfalso; omega)
                            | omega
                            | exact Or.inl ⟨rfl, (hx1 (by omega)).2.2.1 (by omega), by omega⟩
                            | exact Or.inr ⟨rfl, (hx1 (by omega)).2.2.2 (by omega)⟩
                            | exact Or.inr ⟨rfl, hx2 (by omega)⟩
                · skip
                  refine z_iinc cx dX5_laysLines_68 rfl ?_
                  refine z_goto cx (tgt := 49) dX5_laysLines_71 ?_
                  refine Z.locs (ih49 (j + 1) (wd) (by omega) hbb hwd (by omega) (fun q h1 h2 => by rcases Nat.lt_succ_iff_lt_or_eq.mp h2 with h2 | rfl; exact hjn q h1 h2; omega)) ⟨rfl, rfl, rfl, rfl, rfl, rfl, rfl, rfl, rfl, trivial⟩
          refine z_iload cx dX5_laysLines_24 rfl ?_
          refine z_if_eq cx (tgt := 135) dX5_laysLines_26 (fun h26 => ?_) (fun h26 => ?_)
          · skip
            have hle : LE S.2.2 w a en := by
              rcases hE with q | q
              · exfalso; omega
              · exact q.2
            have hle2 := lend_of hle
            have hlt := hL.lt o5 haL
            refine z_aload_n cx dX5_laysLines_135 rfl ?_
            refine g_X5_7 cx fl_X5_25 dX5_laysLines_136 ?_
            refine z_iload_n cx dX5_laysLines_139 rfl ?_
            refine z_iload cx dX5_laysLines_140 rfl ?_
            refine z_iload_n cx dX5_laysLines_142 rfl ?_
            refine z_isub cx dX5_laysLines_143 ?_
            refine z_iast cx (kc) (by omega) (by omega) rfl (fun G => co_lines E G) dX5_laysLines_144 ?_
            refine z_iinc cx dX5_laysLines_145 rfl ?_
            refine z_iload cx dX5_laysLines_148 rfl ?_
            refine z_iconst cx dX5_laysLines_150 ?_
            refine z_iadd cx dX5_laysLines_151 ?_
            refine z_istore_n cx dX5_laysLines_152 ?_
            refine z_goto cx (tgt := 12) dX5_laysLines_153 ?_
            refine Z.locs (ih12 (en + 1) (kc + 1) _ (by omega) (by omega) (hle2 ▸ hL.next o5 haL) ?_ ?_ ?_) ⟨rfl, rfl, rfl, rfl, rfl, trivial⟩
            · intro h1
              rcases hle.2.1 with q | ⟨-, q⟩
              · omega
              · intro w2
                exact hTx.2.2.2.2.2 en h1 ⟨q, w2⟩
            · intro k hk
              rcases Nat.lt_succ_iff_lt_or_eq.mp hk with hk | rfl
              · rw [gup_i _ _ _ _ _ (by omega)]
                exact hl k hk
              · rw [gup_s, (hL.lt o5 haL).2, hle2]
            · intro f a i h
              rw [gup_eq, if_neg (by omega)]
              exact hf f a i h
          · skip
            refine z_iload cx dX5_laysLines_29 rfl ?_
            refine z_iload_n cx dX5_laysLines_31 rfl ?_
            refine z_icmp_ne cx (tgt := 39) dX5_laysLines_32 (fun h32 => ?_) (fun h32 => ?_)
            · skip
              refine z_iload cx dX5_laysLines_39 rfl ?_
              refine z_iconst cx dX5_laysLines_41 ?_
              refine z_iadd cx dX5_laysLines_42 ?_
              try rw [show ((en : Int) + 1) = ((en + 1 : Nat) : Int) by omega]
              refine z_istore cx dX5_laysLines_43 ?_
              refine z_iload cx dX5_laysLines_45 rfl ?_
              refine z_istore cx dX5_laysLines_47 ?_
              refine Z.locs (L49 _ _ _ (Nat.lt_succ_self _) (by omega) (by omega) (by omega) (fun q h1 h2 => by omega)) ⟨rfl, rfl, rfl, rfl, rfl, rfl, rfl, rfl, rfl, trivial⟩
            · skip
              refine z_iload_n cx dX5_laysLines_35 rfl ?_
              refine z_goto cx (tgt := 43) dX5_laysLines_36 ?_
              try rw [show ((en : Int) + 1) = ((en + 1 : Nat) : Int) by omega]
              refine z_istore cx dX5_laysLines_43 ?_
              refine z_iload cx dX5_laysLines_45 rfl ?_
              refine z_istore cx dX5_laysLines_47 ?_
              refine Z.locs (L49 _ _ _ (Nat.lt_succ_self _) (by omega) (by omega) (by omega) (fun q h1 h2 => by omega)) ⟨rfl, rfl, rfl, rfl, rfl, rfl, rfl, rfl, rfl, trivial⟩
      refine z_iload_n cx dX5_laysLines_12 rfl ?_
      refine z_iload cx dX5_laysLines_13 rfl ?_
      refine z_icmp_ge cx (tgt := 156) dX5_laysLines_15 (fun h15 => ?_) (fun h15 => ?_)
      · skip
        refine z_iload_n cx dX5_laysLines_156 rfl ?_
        refine z_iret cx dX5_laysLines_157 ?_
        have hlen := hL.len (by omega)
        refine ⟨by rw [hlen], fun k hk => hl k (by omega), hf⟩
      · skip
        refine z_iload_n cx dX5_laysLines_18 rfl ?_
        refine z_istore cx dX5_laysLines_19 ?_
        refine z_iconst cx dX5_laysLines_21 ?_
        refine z_istore cx dX5_laysLines_22 ?_
        refine Z.locs (L24 _ (a) (1) (Nat.lt_succ_self _) (by omega) (by omega) (Or.inl ⟨rfl, Or.inl rfl, by omega⟩)) ⟨rfl, rfl, rfl, rfl, rfl, rfl, rfl, trivial⟩
  refine z_iconst cx dX5_laysLines_0 ?_
  refine z_istore_n cx dX5_laysLines_1 ?_
  refine z_iconst cx dX5_laysLines_2 ?_
  refine z_istore_n cx dX5_laysLines_3 ?_
  refine z_aload_n cx dX5_laysLines_4 rfl ?_
  refine z_iload_n cx dX5_laysLines_5 rfl ?_
  refine z_iconst cx dX5_laysLines_6 ?_
  refine z_vi cx (c_X5_of (20 + 43 * i + 2) (by omega) (by omega)) rfl mv_X5_of ml_X5_43 (by omega) (co_mod E _) rfl dX5_laysLines_7 (fun z7 G7 hz7 => ?_)
  obtain ⟨eG, rfl⟩ := hz7
  have eG := eG.symm
  subst eG
  rw [t2]
  refine z_istore cx dX5_laysLines_10 ?_
  refine Z.locs (L12 _ (0) (0) _ (Nat.lt_succ_self _) (by omega) (LnAt_0 _ _) (fun _ => hTx.2.2.2.1) (fun k h => absurd h (Nat.not_lt_zero _)) (fun _ _ _ _ => rfl)) ⟨rfl, rfl, rfl, rfl, rfl, trivial⟩
set_option maxRecDepth 100000 in
set_option maxHeartbeats 4000000 in
theorem c_X5_isWide {E : En} {G : Wd} {w : Int} {x : Int} {i : Nat} (hx : x = (i : Int)) {S : Sb} (hS : MSub (G 20 0) i S) (hT : SbOk S) (hi : i < 20) (hw : 0 ≤ w ∧ w ≤ 100) (v4 : G 20 0 5 = w) : Cti E yX5_isWide cX5_isWide 5 .boolean 3 73 [.ref (E.1 6), .int (iN (x))] G (fun z G' => (z = 1 ∧ wide w S.2.2 ∨ z = 0 ∧ ¬ wide w S.2.2) ∧ ∀ f a i, ¬ (f = 25 ∧ a = 0) → G' f a i = G f a i) := by
  have t0 := hS.1
  have t1 := hS.2.1
  have t2 := hS.2.2.1
  have t3 := hS.2.2.2
  have o1 := hT.1
  have o2 := hT.2.1
  have o3 := hT.2.2.1
  have o4 := hT.2.2.2.1
  have o5 := hT.2.2.2.2.1
  have hlw := lns_len (t := S.2.2) w o5
  refine Cti.mk [some (.ref (E.1 6)), some (.int (iN (x))), none, none, none] (by decide) rfl (by intro v hv; simp only [List.mem_cons, List.not_mem_nil, or_false] at hv; rcases hv with rfl | rfl <;> rfl) (Nat.le_of_ble_eq_true rfl) ?_
  intro p l e s m args below meth c cx
  have L20 : ∀ (n : Nat) (k : Nat) (is : Int) (G1 : Wd), (60 - k) < n → (k ≤ (lns S.2.2 w).length) → (∀ k, k < (lns S.2.2 w).length → G1 25 0 k = (lns S.2.2 w).getD k 0) → (∀ f a i, ¬ (f = 25 ∧ a = 0) → G1 f a i = G f a i) → (is = 1 ∧ (2 < (lns S.2.2 w).length ∨ ∃ i, i < k ∧ w < (lns S.2.2 w).getD i 0) ∨ is = 0 ∧ (lns S.2.2 w).length ≤ 2 ∧ ∀ i, i < k → (lns S.2.2 w).getD i 0 ≤ w) → Z p l e (zr 3 73) s m args below meth c 5 0 0 E (Qi_ E below args s (fun z G' => (z = 1 ∧ wide w S.2.2 ∨ z = 0 ∧ ¬ wide w S.2.2) ∧ ∀ f a i, ¬ (f = 25 ∧ a = 0) → G' f a i = G f a i)) G1 20 [some (.ref (E.1 6)), some (.int (iN (x))), some (.int (iN (((lns S.2.2 w).length : Int)))), some (.int (iN (is))), some (.int (iN ((k : Int))))] [] := by
    intro n
    induction n with
    | zero =>
      intro k is G1 hmu
      exact absurd hmu (Nat.not_lt_zero _)
    | succ n ih =>
      intro k is G1 hmu hk hln hfr hN
      have his : is = 1 ∨ is = 0 := by rcases hN with ⟨q, -⟩ | ⟨q, -⟩ <;> omega
      refine z_iload cx dX5_isWide_20 rfl ?_
      refine z_iload_n cx dX5_isWide_22 rfl ?_
      refine z_icmp_ge cx (tgt := 57) dX5_isWide_23 (fun h23 => ?_) (fun h23 => ?_)
      · skip
        refine z_iload_n cx dX5_isWide_57 rfl ?_
        refine z_zret cx dX5_isWide_58 ?_
        refine ⟨?_, hfr⟩
        unfold wide
        rcases hN with ⟨g1, g2⟩ | ⟨g1, g0, g2⟩
        · refine Or.inl ⟨g1, fun ⟨q1, q2⟩ => ?_⟩
          rcases g2 with g2 | ⟨i, g2, g3⟩
          · omega
          · have := q2 i (by omega)
            omega
        · exact Or.inr ⟨g1, fun q => q ⟨by omega, fun i h => g2 i (by omega)⟩⟩
      · skip
        refine z_iload_n cx dX5_isWide_26 rfl ?_
        refine z_if_ne cx (tgt := 45) dX5_isWide_27 (fun h27 => ?_) (fun h27 => ?_)
        · skip
          refine z_iconst cx dX5_isWide_45 ?_
          refine z_goto cx (tgt := 50) dX5_isWide_46 ?_
          refine z_istore_n cx dX5_isWide_50 ?_
          refine z_iinc cx dX5_isWide_51 rfl ?_
          refine z_goto cx (tgt := 20) dX5_isWide_54 ?_
          refine Z.locs (ih (k + 1) _ _ (by omega) (by omega) hln hfr ?_) ⟨rfl, rfl, rfl, rfl, rfl, trivial⟩
          rcases hN with ⟨g1, g2⟩ | ⟨g1, g0, g2⟩
          · first
            | (exfalso; omega)
            | exact Or.inl ⟨rfl, g2.imp id (fun ⟨i, q1, q2⟩ => ⟨i, by omega, q2⟩)⟩
          · first
            | (exfalso; omega)
            | exact Or.inl ⟨rfl, Or.inr ⟨k, by omega, by omega⟩⟩
            | exact Or.inr ⟨rfl, g0, fun i h => by rcases Nat.lt_succ_iff_lt_or_eq.mp h with h | rfl; exact g2 i h; omega⟩
        · skip
          refine z_aload_n cx dX5_isWide_30 rfl ?_
          refine g_X5_7 cx fl_X5_25 dX5_isWide_31 ?_
          have ek := hln k (by omega)
          have ekb := lns_b (t := S.2.2) w o5 (i := k) (by omega)
          refine z_iload cx dX5_isWide_34 rfl ?_
          refine z_iald cx (k) (by omega) (by omega) (co_lines E _) dX5_isWide_36 ?_
          rw [ek]
          have v42 : G1 20 0 5 = w := (hfr 20 0 5 (by omega)).trans v4
          refine z_aload_n cx dX5_isWide_37 rfl ?_
          refine z_iconst cx dX5_isWide_38 ?_
          refine z_vi cx (c_X5_its 5 rfl (by omega)) rfl mv_X5_its ml_X5_47 (by omega) (co_mod E _) rfl dX5_isWide_39 (fun z39 G39 hz39 => ?_)
          obtain ⟨eG, rfl⟩ := hz39
          have eG := eG.symm
          subst eG
          refine z_icmp_le cx (tgt := 49) dX5_isWide_42 (fun h42 => ?_) (fun h42 => ?_)
          · skip
            refine z_iconst cx dX5_isWide_49 ?_
            refine z_istore_n cx dX5_isWide_50 ?_
            refine z_iinc cx dX5_isWide_51 rfl ?_
            refine z_goto cx (tgt := 20) dX5_isWide_54 ?_
            refine Z.locs (ih (k + 1) _ _ (by omega) (by omega) hln hfr ?_) ⟨rfl, rfl, rfl, rfl, rfl, trivial⟩
            rcases hN with ⟨g1, g2⟩ | ⟨g1, g0, g2⟩
            · first
              | (exfalso; omega)
              | exact Or.inl ⟨rfl, g2.imp id (fun ⟨i, q1, q2⟩ => ⟨i, by omega, q2⟩)⟩
            · first
              | (exfalso; omega)
              | exact Or.inl ⟨rfl, Or.inr ⟨k, by omega, by omega⟩⟩
              | exact Or.inr ⟨rfl, g0, fun i h => by rcases Nat.lt_succ_iff_lt_or_eq.mp h with h | rfl; exact g2 i h; omega⟩
          · skip
            refine z_iconst cx dX5_isWide_45 ?_
            refine z_goto cx (tgt := 50) dX5_isWide_46 ?_
            refine z_istore_n cx dX5_isWide_50 ?_
            refine z_iinc cx dX5_isWide_51 rfl ?_
            refine z_goto cx (tgt := 20) dX5_isWide_54 ?_
            refine Z.locs (ih (k + 1) _ _ (by omega) (by omega) hln hfr ?_) ⟨rfl, rfl, rfl, rfl, rfl, trivial⟩
            rcases hN with ⟨g1, g2⟩ | ⟨g1, g0, g2⟩
            · first
              | (exfalso; omega)
              | exact Or.inl ⟨rfl, g2.imp id (fun ⟨i, q1, q2⟩ => ⟨i, by omega, q2⟩)⟩
            · first
              | (exfalso; omega)
              | exact Or.inl ⟨rfl, Or.inr ⟨k, by omega, by omega⟩⟩
              | exact Or.inr ⟨rfl, g0, fun i h => by rcases Nat.lt_succ_iff_lt_or_eq.mp h with h | rfl; exact g2 i h; omega⟩
  refine z_aload_n cx dX5_isWide_0 rfl ?_
  refine z_iload_n cx dX5_isWide_1 rfl ?_
  refine z_vi cx (c_X5_laysLines hx hS hT hi hw v4) rfl mv_X5_laysLines ml_X5_62 (by omega) (co_mod E _) rfl dX5_isWide_2 (fun z2 G2 hz2 => ?_)
  obtain ⟨rfl, hlnhz2, hfrhz2⟩ := hz2
  refine z_istore_n cx dX5_isWide_5 ?_
  refine z_iload_n cx dX5_isWide_6 rfl ?_
  refine z_iconst cx dX5_isWide_7 ?_
  refine z_icmp_le cx (tgt := 15) dX5_isWide_8 (fun h8 => ?_) (fun h8 => ?_)
  · skip
    refine z_iconst cx dX5_isWide_15 ?_
    refine z_istore_n cx dX5_isWide_16 ?_
    refine z_iconst cx dX5_isWide_17 ?_
    refine z_istore cx dX5_isWide_18 ?_
    refine Z.locs (L20 _ (0) _ _ (Nat.lt_succ_self _) (by omega) hlnhz2 hfrhz2 ?_) ⟨rfl, rfl, rfl, rfl, rfl, trivial⟩
    first
    | exact Or.inl ⟨rfl, Or.inl (by omega)⟩
    | exact Or.inr ⟨rfl, by omega, fun i h => absurd h (Nat.not_lt_zero _)⟩
  · skip
    refine z_iconst cx dX5_isWide_11 ?_
    refine z_goto cx (tgt := 16) dX5_isWide_12 ?_
    refine z_istore_n cx dX5_isWide_16 ?_
    refine z_iconst cx dX5_isWide_17 ?_
    refine z_istore cx dX5_isWide_18 ?_
    refine Z.locs (L20 _ (0) _ _ (Nat.lt_succ_self _) (by omega) hlnhz2 hfrhz2 ?_) ⟨rfl, rfl, rfl, rfl, rfl, trivial⟩
    first
    | exact Or.inl ⟨rfl, Or.inl (by omega)⟩
    | exact Or.inr ⟨rfl, by omega, fun i h => absurd h (Nat.not_lt_zero _)⟩
set_option maxRecDepth 100000 in
set_option maxHeartbeats 4000000 in
theorem c_X5_faultsOf {E : En} {G : Wd} {F : Fm} (hM : MFilm (G 20 0) F) (hO : FOk F) {x : Int} {i : Nat} (hx : x = (i : Int)) (hi : i < F.2.2.length) : Cti E yX5_faultsOf cX5_faultsOf 3 .int 4 97 [.ref (E.1 6), .int (iN (x))] G (fun z G' => z = flt F i ∧ ∀ f a i, ¬ (f = 25 ∧ a = 0) → G' f a i = G f a i) := by
  obtain ⟨m0, mV, m7, mC, mS⟩ := id hM
  obtain ⟨hOv, hOc, hOs⟩ := id hO
  have hl20 := hOs.1
  have hl12 := hOc.1
  obtain ⟨hv0, hv1, hv2, hv3, hv4, hv5⟩ := id hOv
  have v0 : G 20 0 1 = F.1 0 := mV 0 (by omega)
  have v1 : G 20 0 2 = F.1 1 := mV 1 (by omega)
  have v2 : G 20 0 3 = F.1 2 := mV 2 (by omega)
  have v3 : G 20 0 4 = F.1 3 := mV 3 (by omega)
  have v4 : G 20 0 5 = F.1 4 := mV 4 (by omega)
  have v5 : G 20 0 6 = F.1 5 := mV 5 (by omega)
  have hs_ := mS (i) (by omega)
  have ho := hOs.2.1 (i) (by omega)
  have t0 := hs_.1
  have t1 := hs_.2.1
  have t2 := hs_.2.2.1
  have t3 := hs_.2.2.2
  have o1 := ho.1
  have o2 := ho.2.1
  have o3 := ho.2.2.1
  have o4 := ho.2.2.2.1
  have o5 := ho.2.2.2.2.1
  have fb := fun (p : Prop) (v : Int) (h : 0 ≤ v) => bit_b (p := p) (v := v) h
  have fb1 := fb (fast (F.2.2.getD i dS) (F.1 0)) 1 (by omega)
  have fb2 := fb ((F.2.2.getD i dS).2.1 - (F.2.2.getD i dS).1 < F.1 2) 2 (by omega)
  have fb3 := fb ((F.2.2.getD i dS).2.1 - (F.2.2.getD i dS).1 > F.1 3) 4 (by omega)
  have fb4 := fb (i + 1 < F.2.2.length ∧ (F.2.2.getD (i + 1) dS).1 - (F.2.2.getD i dS).2.1 < F.1 1) 8 (by omega)
  have fb5 := fb (nearC F (F.2.2.getD i dS)) 16 (by omega)
  have fb6 := fb (wide (F.1 4) (F.2.2.getD i dS).2.2) 32 (by omega)
  refine Cti.mk [some (.ref (E.1 6)), some (.int (iN (x))), none] (by decide) rfl (by intro v hv; simp only [List.mem_cons, List.not_mem_nil, or_false] at hv; rcases hv with rfl | rfl <;> rfl) (Nat.le_of_ble_eq_true rfl) ?_
  intro p l e s m args below meth c cx
  have L122 : ∀ (v : Int), (v = bit (fast (F.2.2.getD i dS) (F.1 0)) 1 + bit ((F.2.2.getD i dS).2.1 - (F.2.2.getD i dS).1 < F.1 2) 2 + bit ((F.2.2.getD i dS).2.1 - (F.2.2.getD i dS).1 > F.1 3) 4 + bit (i + 1 < F.2.2.length ∧ (F.2.2.getD (i + 1) dS).1 - (F.2.2.getD i dS).2.1 < F.1 1) 8 + bit (nearC F (F.2.2.getD i dS)) 16) → Z p l e (zr 4 97) s m args below meth c 3 0 0 E (Qi_ E below args s (fun z G' => z = flt F i ∧ ∀ f a i, ¬ (f = 25 ∧ a = 0) → G' f a i = G f a i)) G 122 [some (.ref (E.1 6)), some (.int (iN (x))), some (.int (iN (v)))] [] := by
    intro v hv
    refine z_iload_n cx dX5_faultsOf_122 rfl ?_
    refine z_aload_n cx dX5_faultsOf_123 rfl ?_
    refine z_iload_n cx dX5_faultsOf_124 rfl ?_
    refine z_vi cx (c_X5_isWide hx hs_ ho (by omega) (by omega) v4) rfl mv_X5_isWide ml_X5_76 (by omega) (co_mod E _) rfl dX5_faultsOf_125 (fun z125 G125 hz125 => ?_)
    obtain ⟨hwhz125, hfrhz125⟩ := hz125
    refine z_if_eq cx (tgt := 136) dX5_faultsOf_128 (fun h128 => ?_) (fun h128 => ?_)
    · skip
      refine z_iconst cx dX5_faultsOf_136 ?_
      refine z_iadd cx dX5_faultsOf_137 ?_
      refine z_iret cx dX5_faultsOf_138 ?_
      refine ⟨?_, hfrhz125⟩
      unfold flt
      rw [hv]
      first
      | (rw [bit_t (p := wide (F.1 4) (F.2.2.getD i dS).2.2) (by rcases hwhz125 with ⟨g1, g2⟩ | ⟨g1, g2⟩ <;> first | exact g2 | exact (fun w => g2 w) | (exfalso; omega))]; done)
      | (rw [bit_f (p := wide (F.1 4) (F.2.2.getD i dS).2.2) (by rcases hwhz125 with ⟨g1, g2⟩ | ⟨g1, g2⟩ <;> first | exact g2 | exact (fun w => g2 w) | (exfalso; omega))]; done)
    · skip
      refine z_bipush cx dX5_faultsOf_131 ?_
      refine z_goto cx (tgt := 137) dX5_faultsOf_133 ?_
      refine z_iadd cx dX5_faultsOf_137 ?_
      refine z_iret cx dX5_faultsOf_138 ?_
      refine ⟨?_, hfrhz125⟩
      unfold flt
      rw [hv]
      first
      | (rw [bit_t (p := wide (F.1 4) (F.2.2.getD i dS).2.2) (by rcases hwhz125 with ⟨g1, g2⟩ | ⟨g1, g2⟩ <;> first | exact g2 | exact (fun w => g2 w) | (exfalso; omega))]; done)
      | (rw [bit_f (p := wide (F.1 4) (F.2.2.getD i dS).2.2) (by rcases hwhz125 with ⟨g1, g2⟩ | ⟨g1, g2⟩ <;> first | exact g2 | exact (fun w => g2 w) | (exfalso; omega))]; done)
  have L105 : ∀ (v : Int), (v = bit (fast (F.2.2.getD i dS) (F.1 0)) 1 + bit ((F.2.2.getD i dS).2.1 - (F.2.2.getD i dS).1 < F.1 2) 2 + bit ((F.2.2.getD i dS).2.1 - (F.2.2.getD i dS).1 > F.1 3) 4 + bit (i + 1 < F.2.2.length ∧ (F.2.2.getD (i + 1) dS).1 - (F.2.2.getD i dS).2.1 < F.1 1) 8) → Z p l e (zr 4 97) s m args below meth c 3 0 0 E (Qi_ E below args s (fun z G' => z = flt F i ∧ ∀ f a i, ¬ (f = 25 ∧ a = 0) → G' f a i = G f a i)) G 105 [some (.ref (E.1 6)), some (.int (iN (x))), some (.int (iN (v)))] [] := by
    intro v hv
    refine z_iload_n cx dX5_faultsOf_105 rfl ?_
    refine z_aload_n cx dX5_faultsOf_106 rfl ?_
    refine z_iload_n cx dX5_faultsOf_107 rfl ?_
    refine z_vi cx (c_X5_isNearCut (F := F) hx hs_ ho (by omega) hOv v5 m7 mC hOc) rfl mv_X5_isNearCut ml_X5_72 (by omega) (co_mod E _) rfl dX5_faultsOf_108 (fun z108 G108 hz108 => ?_)
    obtain ⟨eG, hz108⟩ := hz108
    have eG := eG.symm
    subst eG
    refine z_if_eq cx (tgt := 119) dX5_faultsOf_111 (fun h111 => ?_) (fun h111 => ?_)
    · skip
      refine z_iconst cx dX5_faultsOf_119 ?_
      refine z_iadd cx dX5_faultsOf_120 ?_
      refine z_istore_n cx dX5_faultsOf_121 ?_
      refine Z.locs (L122 _ (by first | (rw [bit_t (p := nearC F (F.2.2.getD i dS)) (by rcases hz108 with ⟨g1, g2⟩ | ⟨g1, g2⟩ <;> first | exact g2 | exact (fun w => g2 w) | (exfalso; omega))] <;> omega) | (rw [bit_f (p := nearC F (F.2.2.getD i dS)) (by rcases hz108 with ⟨g1, g2⟩ | ⟨g1, g2⟩ <;> first | exact g2 | exact (fun w => g2 w) | (exfalso; omega))] <;> omega))) ⟨rfl, rfl, rfl, trivial⟩
    · skip
      refine z_bipush cx dX5_faultsOf_114 ?_
      refine z_goto cx (tgt := 120) dX5_faultsOf_116 ?_
      refine z_iadd cx dX5_faultsOf_120 ?_
      refine z_istore_n cx dX5_faultsOf_121 ?_
      refine Z.locs (L122 _ (by first | (rw [bit_t (p := nearC F (F.2.2.getD i dS)) (by rcases hz108 with ⟨g1, g2⟩ | ⟨g1, g2⟩ <;> first | exact g2 | exact (fun w => g2 w) | (exfalso; omega))] <;> omega) | (rw [bit_f (p := nearC F (F.2.2.getD i dS)) (by rcases hz108 with ⟨g1, g2⟩ | ⟨g1, g2⟩ <;> first | exact g2 | exact (fun w => g2 w) | (exfalso; omega))] <;> omega))) ⟨rfl, rfl, rfl, trivial⟩
  have L61 : ∀ (v : Int), (v = bit (fast (F.2.2.getD i dS) (F.1 0)) 1 + bit ((F.2.2.getD i dS).2.1 - (F.2.2.getD i dS).1 < F.1 2) 2 + bit ((F.2.2.getD i dS).2.1 - (F.2.2.getD i dS).1 > F.1 3) 4) → Z p l e (zr 4 97) s m args below meth c 3 0 0 E (Qi_ E below args s (fun z G' => z = flt F i ∧ ∀ f a i, ¬ (f = 25 ∧ a = 0) → G' f a i = G f a i)) G 61 [some (.ref (E.1 6)), some (.int (iN (x))), some (.int (iN (v)))] [] := by
    intro v hv
    refine z_iload_n cx dX5_faultsOf_61 rfl ?_
    refine z_iload_n cx dX5_faultsOf_62 rfl ?_
    refine z_iconst cx dX5_faultsOf_63 ?_
    refine z_iadd cx dX5_faultsOf_64 ?_
    refine z_aload_n cx dX5_faultsOf_65 rfl ?_
    refine g_X5_0 cx fl_X5_7 dX5_faultsOf_66 ?_
    refine z_iconst cx dX5_faultsOf_69 ?_
    refine z_iald cx (0) (by omega) (by omega) (co_s E _) dX5_faultsOf_70 ?_
    refine z_icmp_ge cx (tgt := 102) dX5_faultsOf_71 (fun h71 => ?_) (fun h71 => ?_)
    · skip
      refine z_iconst cx dX5_faultsOf_102 ?_
      refine z_iadd cx dX5_faultsOf_103 ?_
      refine z_istore_n cx dX5_faultsOf_104 ?_
      refine Z.locs (L105 _ (by first | (rw [bit_t (p := i + 1 < F.2.2.length ∧ (F.2.2.getD (i + 1) dS).1 - (F.2.2.getD i dS).2.1 < F.1 1) (by omega)] <;> omega) | (rw [bit_f (p := i + 1 < F.2.2.length ∧ (F.2.2.getD (i + 1) dS).1 - (F.2.2.getD i dS).2.1 < F.1 1) (by omega)] <;> omega))) ⟨rfl, rfl, rfl, trivial⟩
    · skip
      have hsn_ := mS (i + 1) (by omega)
      have hon := hOs.2.1 (i + 1) (by omega)
      have t0n := hsn_.1
      have t1n := hsn_.2.1
      have t2n := hsn_.2.2.1
      have t3n := hsn_.2.2.2
      have o1n := hon.1
      have o2n := hon.2.1
      have o3n := hon.2.2.1
      have o4n := hon.2.2.2.1
      have o5n := hon.2.2.2.2.1
      refine z_aload_n cx dX5_faultsOf_74 rfl ?_
      refine z_iload_n cx dX5_faultsOf_75 rfl ?_
      refine z_iconst cx dX5_faultsOf_76 ?_
      refine z_iadd cx dX5_faultsOf_77 ?_
      refine z_iconst cx dX5_faultsOf_78 ?_
      refine z_vi cx (c_X5_of (20 + 43 * (i + 1)) (by omega) (by omega)) rfl mv_X5_of ml_X5_43 (by omega) (co_mod E _) rfl dX5_faultsOf_79 (fun z79 G79 hz79 => ?_)
      obtain ⟨eG, rfl⟩ := hz79
      have eG := eG.symm
      subst eG
      refine z_aload_n cx dX5_faultsOf_82 rfl ?_
      refine z_iload_n cx dX5_faultsOf_83 rfl ?_
      refine z_iconst cx dX5_faultsOf_84 ?_
      refine z_vi cx (c_X5_of (20 + 43 * i + 1) (by omega) (by omega)) rfl mv_X5_of ml_X5_43 (by omega) (co_mod E _) rfl dX5_faultsOf_85 (fun z85 G85 hz85 => ?_)
      obtain ⟨eG, rfl⟩ := hz85
      have eG := eG.symm
      subst eG
      refine z_isub cx dX5_faultsOf_88 ?_
      refine z_aload_n cx dX5_faultsOf_89 rfl ?_
      refine z_iconst cx dX5_faultsOf_90 ?_
      refine z_vi cx (c_X5_its 2 rfl (by omega)) rfl mv_X5_its ml_X5_47 (by omega) (co_mod E _) rfl dX5_faultsOf_91 (fun z91 G91 hz91 => ?_)
      obtain ⟨eG, rfl⟩ := hz91
      have eG := eG.symm
      subst eG
      refine z_icmp_ge cx (tgt := 102) dX5_faultsOf_94 (fun h94 => ?_) (fun h94 => ?_)
      · skip
        refine z_iconst cx dX5_faultsOf_102 ?_
        refine z_iadd cx dX5_faultsOf_103 ?_
        refine z_istore_n cx dX5_faultsOf_104 ?_
        refine Z.locs (L105 _ (by first | (rw [bit_t (p := i + 1 < F.2.2.length ∧ (F.2.2.getD (i + 1) dS).1 - (F.2.2.getD i dS).2.1 < F.1 1) (by omega)] <;> omega) | (rw [bit_f (p := i + 1 < F.2.2.length ∧ (F.2.2.getD (i + 1) dS).1 - (F.2.2.getD i dS).2.1 < F.1 1) (by omega)] <;> omega))) ⟨rfl, rfl, rfl, trivial⟩
      · skip
        refine z_bipush cx dX5_faultsOf_97 ?_
        refine z_goto cx (tgt := 103) dX5_faultsOf_99 ?_
        refine z_iadd cx dX5_faultsOf_103 ?_
        refine z_istore_n cx dX5_faultsOf_104 ?_
        refine Z.locs (L105 _ (by first | (rw [bit_t (p := i + 1 < F.2.2.length ∧ (F.2.2.getD (i + 1) dS).1 - (F.2.2.getD i dS).2.1 < F.1 1) (by omega)] <;> omega) | (rw [bit_f (p := i + 1 < F.2.2.length ∧ (F.2.2.getD (i + 1) dS).1 - (F.2.2.getD i dS).2.1 < F.1 1) (by omega)] <;> omega))) ⟨rfl, rfl, rfl, trivial⟩
  have L40 : ∀ (v : Int), (v = bit (fast (F.2.2.getD i dS) (F.1 0)) 1 + bit ((F.2.2.getD i dS).2.1 - (F.2.2.getD i dS).1 < F.1 2) 2) → Z p l e (zr 4 97) s m args below meth c 3 0 0 E (Qi_ E below args s (fun z G' => z = flt F i ∧ ∀ f a i, ¬ (f = 25 ∧ a = 0) → G' f a i = G f a i)) G 40 [some (.ref (E.1 6)), some (.int (iN (x))), some (.int (iN (v)))] [] := by
    intro v hv
    refine z_iload_n cx dX5_faultsOf_40 rfl ?_
    refine z_aload_n cx dX5_faultsOf_41 rfl ?_
    refine z_iload_n cx dX5_faultsOf_42 rfl ?_
    refine z_vi cx (c_X5_framesOf (20 + 43 * i) (by omega) (by omega)) rfl mv_X5_framesOf ml_X5_65 (by omega) (co_mod E _) rfl dX5_faultsOf_43 (fun z43 G43 hz43 => ?_)
    obtain ⟨eG, rfl⟩ := hz43
    have eG := eG.symm
    subst eG
    refine z_aload_n cx dX5_faultsOf_46 rfl ?_
    refine z_iconst cx dX5_faultsOf_47 ?_
    refine z_vi cx (c_X5_its 4 rfl (by omega)) rfl mv_X5_its ml_X5_47 (by omega) (co_mod E _) rfl dX5_faultsOf_48 (fun z48 G48 hz48 => ?_)
    obtain ⟨eG, rfl⟩ := hz48
    have eG := eG.symm
    subst eG
    refine z_icmp_le cx (tgt := 58) dX5_faultsOf_51 (fun h51 => ?_) (fun h51 => ?_)
    · skip
      refine z_iconst cx dX5_faultsOf_58 ?_
      refine z_iadd cx dX5_faultsOf_59 ?_
      refine z_istore_n cx dX5_faultsOf_60 ?_
      refine Z.locs (L61 _ (by first | (rw [bit_t (p := (F.2.2.getD i dS).2.1 - (F.2.2.getD i dS).1 > F.1 3) (by omega)] <;> omega) | (rw [bit_f (p := (F.2.2.getD i dS).2.1 - (F.2.2.getD i dS).1 > F.1 3) (by omega)] <;> omega))) ⟨rfl, rfl, rfl, trivial⟩
    · skip
      refine z_iconst cx dX5_faultsOf_54 ?_
      refine z_goto cx (tgt := 59) dX5_faultsOf_55 ?_
      refine z_iadd cx dX5_faultsOf_59 ?_
      refine z_istore_n cx dX5_faultsOf_60 ?_
      refine Z.locs (L61 _ (by first | (rw [bit_t (p := (F.2.2.getD i dS).2.1 - (F.2.2.getD i dS).1 > F.1 3) (by omega)] <;> omega) | (rw [bit_f (p := (F.2.2.getD i dS).2.1 - (F.2.2.getD i dS).1 > F.1 3) (by omega)] <;> omega))) ⟨rfl, rfl, rfl, trivial⟩
  have L19 : ∀ (v : Int), (v = bit (fast (F.2.2.getD i dS) (F.1 0)) 1) → Z p l e (zr 4 97) s m args below meth c 3 0 0 E (Qi_ E below args s (fun z G' => z = flt F i ∧ ∀ f a i, ¬ (f = 25 ∧ a = 0) → G' f a i = G f a i)) G 19 [some (.ref (E.1 6)), some (.int (iN (x))), some (.int (iN (v)))] [] := by
    intro v hv
    refine z_iload_n cx dX5_faultsOf_19 rfl ?_
    refine z_aload_n cx dX5_faultsOf_20 rfl ?_
    refine z_iload_n cx dX5_faultsOf_21 rfl ?_
    refine z_vi cx (c_X5_framesOf (20 + 43 * i) (by omega) (by omega)) rfl mv_X5_framesOf ml_X5_65 (by omega) (co_mod E _) rfl dX5_faultsOf_22 (fun z22 G22 hz22 => ?_)
    obtain ⟨eG, rfl⟩ := hz22
    have eG := eG.symm
    subst eG
    refine z_aload_n cx dX5_faultsOf_25 rfl ?_
    refine z_iconst cx dX5_faultsOf_26 ?_
    refine z_vi cx (c_X5_its 3 rfl (by omega)) rfl mv_X5_its ml_X5_47 (by omega) (co_mod E _) rfl dX5_faultsOf_27 (fun z27 G27 hz27 => ?_)
    obtain ⟨eG, rfl⟩ := hz27
    have eG := eG.symm
    subst eG
    refine z_icmp_ge cx (tgt := 37) dX5_faultsOf_30 (fun h30 => ?_) (fun h30 => ?_)
    · skip
      refine z_iconst cx dX5_faultsOf_37 ?_
      refine z_iadd cx dX5_faultsOf_38 ?_
      refine z_istore_n cx dX5_faultsOf_39 ?_
      refine Z.locs (L40 _ (by first | (rw [bit_t (p := (F.2.2.getD i dS).2.1 - (F.2.2.getD i dS).1 < F.1 2) (by omega)] <;> omega) | (rw [bit_f (p := (F.2.2.getD i dS).2.1 - (F.2.2.getD i dS).1 < F.1 2) (by omega)] <;> omega))) ⟨rfl, rfl, rfl, trivial⟩
    · skip
      refine z_iconst cx dX5_faultsOf_33 ?_
      refine z_goto cx (tgt := 38) dX5_faultsOf_34 ?_
      refine z_iadd cx dX5_faultsOf_38 ?_
      refine z_istore_n cx dX5_faultsOf_39 ?_
      refine Z.locs (L40 _ (by first | (rw [bit_t (p := (F.2.2.getD i dS).2.1 - (F.2.2.getD i dS).1 < F.1 2) (by omega)] <;> omega) | (rw [bit_f (p := (F.2.2.getD i dS).2.1 - (F.2.2.getD i dS).1 < F.1 2) (by omega)] <;> omega))) ⟨rfl, rfl, rfl, trivial⟩
  refine z_aload_n cx dX5_faultsOf_0 rfl ?_
  refine z_iload_n cx dX5_faultsOf_1 rfl ?_
  refine z_aload_n cx dX5_faultsOf_2 rfl ?_
  refine z_iconst cx dX5_faultsOf_3 ?_
  refine z_vi cx (c_X5_its 1 rfl (by omega)) rfl mv_X5_its ml_X5_47 (by omega) (co_mod E _) rfl dX5_faultsOf_4 (fun z4 G4 hz4 => ?_)
  obtain ⟨eG, rfl⟩ := hz4
  have eG := eG.symm
  subst eG
  rw [v0]
  refine z_vi cx (c_X5_isFast hx hs_ ho (by omega) (by omega)) rfl mv_X5_isFast ml_X5_68 (by omega) (co_mod E _) rfl dX5_faultsOf_7 (fun z7 G7 hz7 => ?_)
  obtain ⟨eG, hz7⟩ := hz7
  have eG := eG.symm
  subst eG
  refine z_if_eq cx (tgt := 17) dX5_faultsOf_10 (fun h10 => ?_) (fun h10 => ?_)
  · skip
    refine z_iconst cx dX5_faultsOf_17 ?_
    refine z_istore_n cx dX5_faultsOf_18 ?_
    refine Z.locs (L19 _ (by first | (rw [bit_t (p := fast (F.2.2.getD i dS) (F.1 0)) (by rcases hz7 with ⟨g1, g2⟩ | ⟨g1, g2⟩ <;> first | exact g2 | exact (fun w => g2 w) | (exfalso; omega))] <;> omega) | (rw [bit_f (p := fast (F.2.2.getD i dS) (F.1 0)) (by rcases hz7 with ⟨g1, g2⟩ | ⟨g1, g2⟩ <;> first | exact g2 | exact (fun w => g2 w) | (exfalso; omega))] <;> omega))) ⟨rfl, rfl, rfl, trivial⟩
  · skip
    refine z_iconst cx dX5_faultsOf_13 ?_
    refine z_goto cx (tgt := 18) dX5_faultsOf_14 ?_
    refine z_istore_n cx dX5_faultsOf_18 ?_
    refine Z.locs (L19 _ (by first | (rw [bit_t (p := fast (F.2.2.getD i dS) (F.1 0)) (by rcases hz7 with ⟨g1, g2⟩ | ⟨g1, g2⟩ <;> first | exact g2 | exact (fun w => g2 w) | (exfalso; omega))] <;> omega) | (rw [bit_f (p := fast (F.2.2.getD i dS) (F.1 0)) (by rcases hz7 with ⟨g1, g2⟩ | ⟨g1, g2⟩ <;> first | exact g2 | exact (fun w => g2 w) | (exfalso; omega))] <;> omega))) ⟨rfl, rfl, rfl, trivial⟩
