/-! ===== the model: loops ===== -/
set_option maxRecDepth 100000 in
set_option maxHeartbeats 4000000 in
theorem c_X5_faultyBy1 {E : En} {G : Wd} {F : Fm} (hM : MFilm (G 20 0) F) (hO : FOk F) {y : Int} (hy : y = 1 ∨ y = 2 ∨ y = 4 ∨ y = 8 ∨ y = 16 ∨ y = 32) : Cti E yX5_faultyBy cX5_faultyBy 5 .int 5 119 [.ref (E.1 6), .int (iN (y))] G (fun z G' => z = cnt (fun i => flH y (flt F i)) F.2.2.length ∧ ∀ f a i, ¬ (f = 25 ∧ a = 0) → G' f a i = G f a i) := by
  obtain ⟨m0, mV, m7, mC, mS⟩ := id hM
  obtain ⟨hOv, hOc, hOs⟩ := id hO
  have hl20 := hOs.1
  have hl12 := hOc.1
  obtain ⟨hv0, hv1, hv2, hv3, hv4, hv5⟩ := id hOv
  have v0 : G 20 0 1 = F.1 0 := mV 0 (by omega)
  have v1 : G 20 0 2 = F.1 1 := mV 1 (by omega)
  have v2 : G 20 0 3 = F.1 2 := mV 2 (by omega)
  have v3 : G 20 0 4 = F.1 3 := mV 3 (by omega)
  have v4 : G 20 0 5 = F.1 4 := mV 4 (by omega)
  have v5 : G 20 0 6 = F.1 5 := mV 5 (by omega)
  refine Cti.mk [some (.ref (E.1 6)), some (.int (iN (y))), none, none, none] (by decide) rfl (by intro v hv; simp only [List.mem_cons, List.not_mem_nil, or_false] at hv; rcases hv with rfl | rfl <;> rfl) (Nat.le_of_ble_eq_true rfl) ?_
  intro p l e s m args below meth c cx
  have L4 : ∀ (n : Nat) (j : Nat) (G1 : Wd), (60 - j) < n → (j ≤ F.2.2.length) → (∀ f a i, ¬ (f = 25 ∧ a = 0) → G1 f a i = G f a i) → Z p l e (zr 5 119) s m args below meth c 5 0 0 E (Qi_ E below args s (fun z G' => z = cnt (fun i => flH y (flt F i)) F.2.2.length ∧ ∀ f a i, ¬ (f = 25 ∧ a = 0) → G' f a i = G f a i)) G1 4 [some (.ref (E.1 6)), some (.int (iN (y))), some (.int (iN (cnt (fun i => flH y (flt F i)) j))), some (.int (iN ((j : Int)))), none] [] := by
    intro n
    induction n with
    | zero =>
      intro j G1 hmu
      exact absurd hmu (Nat.not_lt_zero _)
    | succ n ih =>
      intro j G1 hmu hj hf
      have hM1 : MFilm (G1 20 0) F := by
        rw [show G1 20 0 = G 20 0 from funext fun i => hf 20 0 i (by omega)]
        exact hM
      have m01 := hM1.1
      refine z_iload_n cx dX5_faultyBy_4 rfl ?_
      refine z_aload_n cx dX5_faultyBy_5 rfl ?_
      refine g_X5_0 cx fl_X5_7 dX5_faultyBy_6 ?_
      refine z_iconst cx dX5_faultyBy_9 ?_
      refine z_iald cx (0) (by omega) (by omega) (co_s E _) dX5_faultyBy_10 ?_
      refine z_icmp_ge cx (tgt := 53) dX5_faultyBy_11 (fun h11 => ?_) (fun h11 => ?_)
      · skip
        refine z_iload_n cx dX5_faultyBy_53 rfl ?_
        refine z_iret cx dX5_faultyBy_54 ?_
        refine ⟨?_, hf⟩
        rw [show j = F.2.2.length by omega]
      · skip
        have hcb := cnt_b (fun i => flH y (flt F i)) j
        have hfb := flt_b F j
        refine z_aload_n cx dX5_faultyBy_14 rfl ?_
        refine z_iload_n cx dX5_faultyBy_15 rfl ?_
        refine z_vi cx (c_X5_faultsOf hM1 hO rfl (i := j) (by omega)) rfl mv_X5_faultsOf ml_X5_79 (by omega) (co_mod E _) rfl dX5_faultyBy_16 (fun z16 G16 hz16 => ?_)
        obtain ⟨rfl, hfrhz16⟩ := hz16
        refine z_istore cx dX5_faultyBy_19 ?_
        refine z_iload_n cx dX5_faultyBy_21 rfl ?_
        refine z_iload_n cx dX5_faultyBy_22 rfl ?_
        refine z_if_ne cx (tgt := 39) dX5_faultyBy_23 (fun h23 => ?_) (fun h23 => ?_)
        · skip
          have hdv : 0 ≤ flt F j / y := Int.ediv_nonneg (by omega) (by omega)
          have hdv2 : flt F j / y ≤ flt F j := Int.ediv_le_self _ (by omega)
          have hfl := flH_b hfb hy
          generalize hq : flt F j / y = qq at hdv hdv2 hfl
          refine z_iload cx dX5_faultyBy_39 rfl ?_
          refine z_iload_n cx dX5_faultyBy_41 rfl ?_
          refine z_idiv cx dX5_faultyBy_42 ?_
          rw [hq]
          refine z_iconst cx dX5_faultyBy_43 ?_
          refine z_irem cx dX5_faultyBy_44 ?_
          refine z_iadd cx dX5_faultyBy_45 ?_
          have hst : cnt (fun i => flH y (flt F i)) (j + 1) = cnt (fun i => flH y (flt F i)) j + (qq - qq / 2 * 2) := by
            by_cases hfx : flH y (flt F j)
            · rw [cnt_t (p := (fun i => flH y (flt F i))) (n := j) hfx]
              have := hfl.mp hfx
              omega
            · rw [cnt_f (p := (fun i => flH y (flt F i))) (n := j) hfx]
              have : ¬ qq % 2 = 1 := fun w => hfx (hfl.mpr w)
              omega
          rw [← hst]
          refine z_istore_n cx dX5_faultyBy_46 ?_
          refine z_iinc cx dX5_faultyBy_47 rfl ?_
          refine z_goto cx (tgt := 4) dX5_faultyBy_50 ?_
          refine Z.locs (ih (j + 1) _ (by omega) (by omega) (fun f a i h => (hfrhz16 f a i h).trans (hf f a i h))) ⟨rfl, rfl, rfl, rfl, trivial⟩
        · skip
          exfalso; omega
  refine z_iconst cx dX5_faultyBy_0 ?_
  refine z_istore_n cx dX5_faultyBy_1 ?_
  refine z_iconst cx dX5_faultyBy_2 ?_
  refine z_istore_n cx dX5_faultyBy_3 ?_
  refine Z.locs (L4 _ (0) _ (Nat.lt_succ_self _) (by omega) (fun _ _ _ _ => rfl)) ⟨rfl, rfl, rfl, rfl, trivial⟩
set_option maxRecDepth 100000 in
set_option maxHeartbeats 4000000 in
theorem c_X5_faultyBy0 {E : En} {G : Wd} {F : Fm} (hM : MFilm (G 20 0) F) (hO : FOk F) : Cti E yX5_faultyBy cX5_faultyBy 5 .int 5 119 [.ref (E.1 6), .int (iN (0))] G (fun z G' => z = cnt (fun i => flH 63 (flt F i)) F.2.2.length ∧ ∀ f a i, ¬ (f = 25 ∧ a = 0) → G' f a i = G f a i) := by
  obtain ⟨m0, mV, m7, mC, mS⟩ := id hM
  obtain ⟨hOv, hOc, hOs⟩ := id hO
  have hl20 := hOs.1
  have hl12 := hOc.1
  obtain ⟨hv0, hv1, hv2, hv3, hv4, hv5⟩ := id hOv
  have v0 : G 20 0 1 = F.1 0 := mV 0 (by omega)
  have v1 : G 20 0 2 = F.1 1 := mV 1 (by omega)
  have v2 : G 20 0 3 = F.1 2 := mV 2 (by omega)
  have v3 : G 20 0 4 = F.1 3 := mV 3 (by omega)
  have v4 : G 20 0 5 = F.1 4 := mV 4 (by omega)
  have v5 : G 20 0 6 = F.1 5 := mV 5 (by omega)
  refine Cti.mk [some (.ref (E.1 6)), some (.int (iN (0))), none, none, none] (by decide) rfl (by intro v hv; simp only [List.mem_cons, List.not_mem_nil, or_false] at hv; rcases hv with rfl | rfl <;> rfl) (Nat.le_of_ble_eq_true rfl) ?_
  intro p l e s m args below meth c cx
  have L4 : ∀ (n : Nat) (j : Nat) (G1 : Wd), (60 - j) < n → (j ≤ F.2.2.length) → (∀ f a i, ¬ (f = 25 ∧ a = 0) → G1 f a i = G f a i) → Z p l e (zr 5 119) s m args below meth c 5 0 0 E (Qi_ E below args s (fun z G' => z = cnt (fun i => flH 63 (flt F i)) F.2.2.length ∧ ∀ f a i, ¬ (f = 25 ∧ a = 0) → G' f a i = G f a i)) G1 4 [some (.ref (E.1 6)), some (.int (iN (0))), some (.int (iN (cnt (fun i => flH 63 (flt F i)) j))), some (.int (iN ((j : Int)))), none] [] := by
    intro n
    induction n with
    | zero =>
      intro j G1 hmu
      exact absurd hmu (Nat.not_lt_zero _)
    | succ n ih =>
      intro j G1 hmu hj hf
      have hM1 : MFilm (G1 20 0) F := by
        rw [show G1 20 0 = G 20 0 from funext fun i => hf 20 0 i (by omega)]
        exact hM
      have m01 := hM1.1
      refine z_iload_n cx dX5_faultyBy_4 rfl ?_
      refine z_aload_n cx dX5_faultyBy_5 rfl ?_
      refine g_X5_0 cx fl_X5_7 dX5_faultyBy_6 ?_
      refine z_iconst cx dX5_faultyBy_9 ?_
      refine z_iald cx (0) (by omega) (by omega) (co_s E _) dX5_faultyBy_10 ?_
      refine z_icmp_ge cx (tgt := 53) dX5_faultyBy_11 (fun h11 => ?_) (fun h11 => ?_)
      · skip
        refine z_iload_n cx dX5_faultyBy_53 rfl ?_
        refine z_iret cx dX5_faultyBy_54 ?_
        refine ⟨?_, hf⟩
        rw [show j = F.2.2.length by omega]
      · skip
        have hcb := cnt_b (fun i => flH 63 (flt F i)) j
        have hfb := flt_b F j
        refine z_aload_n cx dX5_faultyBy_14 rfl ?_
        refine z_iload_n cx dX5_faultyBy_15 rfl ?_
        refine z_vi cx (c_X5_faultsOf hM1 hO rfl (i := j) (by omega)) rfl mv_X5_faultsOf ml_X5_79 (by omega) (co_mod E _) rfl dX5_faultyBy_16 (fun z16 G16 hz16 => ?_)
        obtain ⟨rfl, hfrhz16⟩ := hz16
        refine z_istore cx dX5_faultyBy_19 ?_
        refine z_iload_n cx dX5_faultyBy_21 rfl ?_
        refine z_iload_n cx dX5_faultyBy_22 rfl ?_
        refine z_if_ne cx (tgt := 39) dX5_faultyBy_23 (fun h23 => ?_) (fun h23 => ?_)
        · skip
          exfalso; omega
        · skip
          refine z_iload cx dX5_faultyBy_26 rfl ?_
          refine z_if_le cx (tgt := 35) dX5_faultyBy_28 (fun h28 => ?_) (fun h28 => ?_)
          · skip
            refine z_iconst cx dX5_faultyBy_35 ?_
            refine z_goto cx (tgt := 45) dX5_faultyBy_36 ?_
            refine z_iadd cx dX5_faultyBy_45 ?_
            first
            | (have hst : cnt (fun i => flH 63 (flt F i)) (j + 1) = cnt (fun i => flH 63 (flt F i)) j + 1 := cnt_t (p := (fun i => flH 63 (flt F i))) (n := j) ((flH_63 hfb).mpr (by omega)); rw [← hst])
            | (have hst : cnt (fun i => flH 63 (flt F i)) (j + 1) = cnt (fun i => flH 63 (flt F i)) j + 0 := by
                rw [cnt_f (p := (fun i => flH 63 (flt F i))) (n := j) (fun w => absurd ((flH_63 hfb).mp w) (by omega))]
                omega
               rw [← hst])
            refine z_istore_n cx dX5_faultyBy_46 ?_
            refine z_iinc cx dX5_faultyBy_47 rfl ?_
            refine z_goto cx (tgt := 4) dX5_faultyBy_50 ?_
            refine Z.locs (ih (j + 1) _ (by omega) (by omega) (fun f a i h => (hfrhz16 f a i h).trans (hf f a i h))) ⟨rfl, rfl, rfl, rfl, trivial⟩
          · skip
            refine z_iconst cx dX5_faultyBy_31 ?_
            refine z_goto cx (tgt := 45) dX5_faultyBy_32 ?_
            refine z_iadd cx dX5_faultyBy_45 ?_
            first
            | (have hst : cnt (fun i => flH 63 (flt F i)) (j + 1) = cnt (fun i => flH 63 (flt F i)) j + 1 := cnt_t (p := (fun i => flH 63 (flt F i))) (n := j) ((flH_63 hfb).mpr (by omega)); rw [← hst])
            | (have hst : cnt (fun i => flH 63 (flt F i)) (j + 1) = cnt (fun i => flH 63 (flt F i)) j + 0 := by
                rw [cnt_f (p := (fun i => flH 63 (flt F i))) (n := j) (fun w => absurd ((flH_63 hfb).mp w) (by omega))]
                omega
               rw [← hst])
            refine z_istore_n cx dX5_faultyBy_46 ?_
            refine z_iinc cx dX5_faultyBy_47 rfl ?_
            refine z_goto cx (tgt := 4) dX5_faultyBy_50 ?_
            refine Z.locs (ih (j + 1) _ (by omega) (by omega) (fun f a i h => (hfrhz16 f a i h).trans (hf f a i h))) ⟨rfl, rfl, rfl, rfl, trivial⟩
  refine z_iconst cx dX5_faultyBy_0 ?_
  refine z_istore_n cx dX5_faultyBy_1 ?_
  refine z_iconst cx dX5_faultyBy_2 ?_
  refine z_istore_n cx dX5_faultyBy_3 ?_
  refine Z.locs (L4 _ (0) _ (Nat.lt_succ_self _) (by omega) (fun _ _ _ _ => rfl)) ⟨rfl, rfl, rfl, rfl, trivial⟩
noncomputable def fyR (F : Fm) (y : Int) : Int := if y = 0 then cnt (fun i => flH 63 (flt F i)) F.2.2.length else cnt (fun i => flH y (flt F i)) F.2.2.length
theorem fyR_b (F : Fm) (y : Int) : 0 ≤ fyR F y ∧ fyR F y ≤ F.2.2.length := by
  unfold fyR
  split <;> exact cnt_b _ _
theorem c_X5_faultyBy {E : En} {G : Wd} {F : Fm} (hM : MFilm (G 20 0) F) (hO : FOk F) {y : Int} (hy : y = 0 ∨ y = 1 ∨ y = 2 ∨ y = 4 ∨ y = 8 ∨ y = 16 ∨ y = 32) : Cti E yX5_faultyBy cX5_faultyBy 5 .int 5 119 [.ref (E.1 6), .int (iN y)] G (fun z G' => z = fyR F y ∧ ∀ f a i, ¬ (f = 25 ∧ a = 0) → G' f a i = G f a i) := by
  unfold fyR
  rcases hy with rfl | hy
  · rw [if_pos rfl]
    exact c_X5_faultyBy0 hM hO
  · rw [if_neg (by omega)]
    exact c_X5_faultyBy1 hM hO hy
set_option maxRecDepth 100000 in
set_option maxHeartbeats 4000000 in
theorem c_X5_allFrames {E : En} {G : Wd} {F : Fm} (hM : MFilm (G 20 0) F) (hO : FOk F) : Cti E yX5_allFrames cX5_allFrames 3 .int 2 43 [.ref (E.1 6)] G (fun z G' => G' = G ∧ z = frS F) := by
  obtain ⟨m0, mV, m7, mC, mS⟩ := id hM
  obtain ⟨hOv, hOc, hOs⟩ := id hO
  have hl20 := hOs.1
  have hl12 := hOc.1
  obtain ⟨hv0, hv1, hv2, hv3, hv4, hv5⟩ := id hOv
  have v0 : G 20 0 1 = F.1 0 := mV 0 (by omega)
  have v1 : G 20 0 2 = F.1 1 := mV 1 (by omega)
  have v2 : G 20 0 3 = F.1 2 := mV 2 (by omega)
  have v3 : G 20 0 4 = F.1 3 := mV 3 (by omega)
  have v4 : G 20 0 5 = F.1 4 := mV 4 (by omega)
  have v5 : G 20 0 6 = F.1 5 := mV 5 (by omega)
  refine Cti.mk [some (.ref (E.1 6)), none, none] (by decide) rfl (by intro v hv; simp only [List.mem_cons, List.not_mem_nil, or_false] at hv; subst hv; rfl) (Nat.le_of_ble_eq_true rfl) ?_
  intro p l e s m args below meth c cx
  have L4 : ∀ (n : Nat) (j : Nat), (60 - j) < n → (j ≤ F.2.2.length) → Z p l e (zr 2 43) s m args below meth c 3 0 0 E (Qi_ E below args s (fun z G' => G' = G ∧ z = frS F)) G 4 [some (.ref (E.1 6)), some (.int (iN (sumN (fun i => (F.2.2.getD i dS).2.1 - (F.2.2.getD i dS).1) j))), some (.int (iN ((j : Int))))] [] := by
    intro n
    induction n with
    | zero =>
      intro j hmu
      exact absurd hmu (Nat.not_lt_zero _)
    | succ n ih =>
      intro j hmu hj
      refine z_iload_n cx dX5_allFrames_4 rfl ?_
      refine z_aload_n cx dX5_allFrames_5 rfl ?_
      refine g_X5_0 cx fl_X5_7 dX5_allFrames_6 ?_
      refine z_iconst cx dX5_allFrames_9 ?_
      refine z_iald cx (0) (by omega) (by omega) (co_s E _) dX5_allFrames_10 ?_
      refine z_icmp_ge cx (tgt := 28) dX5_allFrames_11 (fun h11 => ?_) (fun h11 => ?_)
      · skip
        refine z_iload_n cx dX5_allFrames_28 rfl ?_
        refine z_iret cx dX5_allFrames_29 ?_
        refine ⟨rfl, ?_⟩
        rw [show j = F.2.2.length by omega]
        rfl
      · skip
        have hs_ := mS (j) (by omega)
        have ho := hOs.2.1 (j) (by omega)
        have t0 := hs_.1
        have t1 := hs_.2.1
        have t2 := hs_.2.2.1
        have t3 := hs_.2.2.2
        have o1 := ho.1
        have o2 := ho.2.1
        have o3 := ho.2.2.1
        have o4 := ho.2.2.2.1
        have o5 := ho.2.2.2.2.1
        refine z_iload_n cx dX5_allFrames_14 rfl ?_
        refine z_aload_n cx dX5_allFrames_15 rfl ?_
        refine z_iload_n cx dX5_allFrames_16 rfl ?_
        refine z_vi cx (c_X5_framesOf (20 + 43 * j) (by omega) (by omega)) rfl mv_X5_framesOf ml_X5_65 (by omega) (co_mod E _) rfl dX5_allFrames_17 (fun z17 G17 hz17 => ?_)
        obtain ⟨eG, rfl⟩ := hz17
        have eG := eG.symm
        subst eG
        rw [t0, t1]
        refine z_iadd cx dX5_allFrames_20 ?_
        refine z_istore_n cx dX5_allFrames_21 ?_
        refine z_iinc cx dX5_allFrames_22 rfl ?_
        refine z_goto cx (tgt := 4) dX5_allFrames_25 ?_
        refine Z.locs (ih (j + 1) (by omega) (by omega)) ⟨rfl, rfl, rfl, trivial⟩
  refine z_iconst cx dX5_allFrames_0 ?_
  refine z_istore_n cx dX5_allFrames_1 ?_
  refine z_iconst cx dX5_allFrames_2 ?_
  refine z_istore_n cx dX5_allFrames_3 ?_
  refine Z.locs (L4 _ (0) (Nat.lt_succ_self _) (by omega)) ⟨rfl, rfl, rfl, trivial⟩
set_option maxRecDepth 100000 in
set_option maxHeartbeats 4000000 in
theorem c_X5_unreadBy {E : En} {G : Wd} {F : Fm} (hM : MFilm (G 20 0) F) (hO : FOk F) {y : Int} (hy : 0 ≤ y ∧ y ≤ 100) : Cti E yX5_unreadBy cX5_unreadBy 4 .int 3 65 [.ref (E.1 6), .int (iN (y))] G (fun z G' => G' = G ∧ z = unr F y) := by
  obtain ⟨m0, mV, m7, mC, mS⟩ := id hM
  obtain ⟨hOv, hOc, hOs⟩ := id hO
  have hl20 := hOs.1
  have hl12 := hOc.1
  obtain ⟨hv0, hv1, hv2, hv3, hv4, hv5⟩ := id hOv
  have v0 : G 20 0 1 = F.1 0 := mV 0 (by omega)
  have v1 : G 20 0 2 = F.1 1 := mV 1 (by omega)
  have v2 : G 20 0 3 = F.1 2 := mV 2 (by omega)
  have v3 : G 20 0 4 = F.1 3 := mV 3 (by omega)
  have v4 : G 20 0 5 = F.1 4 := mV 4 (by omega)
  have v5 : G 20 0 6 = F.1 5 := mV 5 (by omega)
  refine Cti.mk [some (.ref (E.1 6)), some (.int (iN (y))), none, none] (by decide) rfl (by intro v hv; simp only [List.mem_cons, List.not_mem_nil, or_false] at hv; rcases hv with rfl | rfl <;> rfl) (Nat.le_of_ble_eq_true rfl) ?_
  intro p l e s m args below meth c cx
  have L4 : ∀ (n : Nat) (j : Nat), (60 - j) < n → (j ≤ F.2.2.length) → Z p l e (zr 3 65) s m args below meth c 4 0 0 E (Qi_ E below args s (fun z G' => G' = G ∧ z = unr F y)) G 4 [some (.ref (E.1 6)), some (.int (iN (y))), some (.int (iN (cnt (fun i => fast (F.2.2.getD i dS) y) j))), some (.int (iN ((j : Int))))] [] := by
    intro n
    induction n with
    | zero =>
      intro j hmu
      exact absurd hmu (Nat.not_lt_zero _)
    | succ n ih =>
      intro j hmu hj
      refine z_iload_n cx dX5_unreadBy_4 rfl ?_
      refine z_aload_n cx dX5_unreadBy_5 rfl ?_
      refine g_X5_0 cx fl_X5_7 dX5_unreadBy_6 ?_
      refine z_iconst cx dX5_unreadBy_9 ?_
      refine z_iald cx (0) (by omega) (by omega) (co_s E _) dX5_unreadBy_10 ?_
      refine z_icmp_ge cx (tgt := 37) dX5_unreadBy_11 (fun h11 => ?_) (fun h11 => ?_)
      · skip
        refine z_iload_n cx dX5_unreadBy_37 rfl ?_
        refine z_iret cx dX5_unreadBy_38 ?_
        refine ⟨rfl, ?_⟩
        rw [show j = F.2.2.length by omega]
        rfl
      · skip
        have hs_ := mS (j) (by omega)
        have ho := hOs.2.1 (j) (by omega)
        have t0 := hs_.1
        have t1 := hs_.2.1
        have t2 := hs_.2.2.1
        have t3 := hs_.2.2.2
        have o1 := ho.1
        have o2 := ho.2.1
        have o3 := ho.2.2.1
        have o4 := ho.2.2.2.1
        have o5 := ho.2.2.2.2.1
        have hcb := cnt_b (fun i => fast (F.2.2.getD i dS) y) j
        refine z_iload_n cx dX5_unreadBy_14 rfl ?_
        refine z_aload_n cx dX5_unreadBy_15 rfl ?_
        refine z_iload_n cx dX5_unreadBy_16 rfl ?_
        refine z_iload_n cx dX5_unreadBy_17 rfl ?_
        refine z_vi cx (c_X5_isFast rfl hs_ ho (by omega) hy) rfl mv_X5_isFast ml_X5_68 (by omega) (co_mod E _) rfl dX5_unreadBy_18 (fun z18 G18 hz18 => ?_)
        obtain ⟨eG, hz18⟩ := hz18
        have eG := eG.symm
        subst eG
        refine z_if_eq cx (tgt := 28) dX5_unreadBy_21 (fun h21 => ?_) (fun h21 => ?_)
        · skip
          refine z_iconst cx dX5_unreadBy_28 ?_
          refine z_iadd cx dX5_unreadBy_29 ?_
          first
          | (have hst : cnt (fun i => fast (F.2.2.getD i dS) y) (j + 1) = cnt (fun i => fast (F.2.2.getD i dS) y) j + 1 := cnt_t (by rcases hz18 with ⟨g1, g2⟩ | ⟨g1, g2⟩ <;> first | exact g2 | exact (fun w => g2 w) | (exfalso; omega)); rw [← hst])
          | (have hst : cnt (fun i => fast (F.2.2.getD i dS) y) (j + 1) = cnt (fun i => fast (F.2.2.getD i dS) y) j + 0 := (cnt_f (by rcases hz18 with ⟨g1, g2⟩ | ⟨g1, g2⟩ <;> first | exact g2 | exact (fun w => g2 w) | (exfalso; omega))).trans (Int.add_zero _).symm
             rw [← hst])
          refine z_istore_n cx dX5_unreadBy_30 ?_
          refine z_iinc cx dX5_unreadBy_31 rfl ?_
          refine z_goto cx (tgt := 4) dX5_unreadBy_34 ?_
          refine Z.locs (ih (j + 1) (by omega) (by omega)) ⟨rfl, rfl, rfl, rfl, trivial⟩
        · skip
          refine z_iconst cx dX5_unreadBy_24 ?_
          refine z_goto cx (tgt := 29) dX5_unreadBy_25 ?_
          refine z_iadd cx dX5_unreadBy_29 ?_
          first
          | (have hst : cnt (fun i => fast (F.2.2.getD i dS) y) (j + 1) = cnt (fun i => fast (F.2.2.getD i dS) y) j + 1 := cnt_t (by rcases hz18 with ⟨g1, g2⟩ | ⟨g1, g2⟩ <;> first | exact g2 | exact (fun w => g2 w) | (exfalso; omega)); rw [← hst])
          | (have hst : cnt (fun i => fast (F.2.2.getD i dS) y) (j + 1) = cnt (fun i => fast (F.2.2.getD i dS) y) j + 0 := (cnt_f (by rcases hz18 with ⟨g1, g2⟩ | ⟨g1, g2⟩ <;> first | exact g2 | exact (fun w => g2 w) | (exfalso; omega))).trans (Int.add_zero _).symm
             rw [← hst])
          refine z_istore_n cx dX5_unreadBy_30 ?_
          refine z_iinc cx dX5_unreadBy_31 rfl ?_
          refine z_goto cx (tgt := 4) dX5_unreadBy_34 ?_
          refine Z.locs (ih (j + 1) (by omega) (by omega)) ⟨rfl, rfl, rfl, rfl, trivial⟩
  refine z_iconst cx dX5_unreadBy_0 ?_
  refine z_istore_n cx dX5_unreadBy_1 ?_
  refine z_iconst cx dX5_unreadBy_2 ?_
  refine z_istore_n cx dX5_unreadBy_3 ?_
  refine Z.locs (L4 _ (0) (Nat.lt_succ_self _) (by omega)) ⟨rfl, rfl, rfl, rfl, trivial⟩
set_option maxRecDepth 100000 in
set_option maxHeartbeats 4000000 in
theorem c_X5_kindOf {E : En} {G : Wd} {x w : Int} (j : Nat) (hj : 20 + 43 * x + (3 + (w - 1)) = (j : Int)) (hl : j < 880) {t : Int} (ht : G 20 0 j = t) (htb : 0 ≤ t ∧ t ≤ 200) : Cti E yX5_kindOf cX5_kindOf 4 .int 2 44 [.ref (E.1 6), .int (iN (x)), .int (iN (w))] G (fun z G' => G' = G ∧ z = kindB t) := by
  refine Cti.mk [some (.ref (E.1 6)), some (.int (iN (x))), some (.int (iN (w))), none] (by decide) rfl (by intro v hv; simp only [List.mem_cons, List.not_mem_nil, or_false] at hv; rcases hv with rfl | rfl | rfl <;> rfl) (Nat.le_of_ble_eq_true rfl) ?_
  intro p l e s m args below meth c cx
  refine z_aload_n cx dX5_kindOf_0 rfl ?_
  refine z_iload_n cx dX5_kindOf_1 rfl ?_
  refine z_iload_n cx dX5_kindOf_2 rfl ?_
  refine z_iconst cx dX5_kindOf_3 ?_
  refine z_isub cx dX5_kindOf_4 ?_
  refine z_vi cx (c_X5_letter j (by omega) hl) rfl mv_X5_letter ml_X5_59 (by omega) (co_mod E _) rfl dX5_kindOf_5 (fun z5 G5 hz5 => ?_)
  obtain ⟨eG, rfl⟩ := hz5
  have eG := eG.symm
  subst eG
  rw [ht]
  refine z_istore_n cx dX5_kindOf_8 ?_
  refine z_iload_n cx dX5_kindOf_9 rfl ?_
  refine z_bipush cx dX5_kindOf_10 ?_
  refine z_icmp_ne cx (tgt := 19) dX5_kindOf_12 (fun h12 => ?_) (fun h12 => ?_)
  · skip
    refine z_iload_n cx dX5_kindOf_19 rfl ?_
    refine z_bipush cx dX5_kindOf_20 ?_
    refine z_icmp_ne cx (tgt := 29) dX5_kindOf_22 (fun h22 => ?_) (fun h22 => ?_)
    · skip
      refine z_iconst cx dX5_kindOf_29 ?_
      refine z_iret cx dX5_kindOf_30 ?_
      refine ⟨rfl, ?_⟩
      unfold kindB
      first | (rw [if_pos (by omega)]; done) | (rw [if_neg (by omega), if_pos (by omega)]; done) | (rw [if_neg (by omega), if_neg (by omega)]; done)
    · skip
      refine z_iconst cx dX5_kindOf_25 ?_
      refine z_goto cx (tgt := 30) dX5_kindOf_26 ?_
      refine z_iret cx dX5_kindOf_30 ?_
      refine ⟨rfl, ?_⟩
      unfold kindB
      first | (rw [if_pos (by omega)]; done) | (rw [if_neg (by omega), if_pos (by omega)]; done) | (rw [if_neg (by omega), if_neg (by omega)]; done)
  · skip
    refine z_iconst cx dX5_kindOf_15 ?_
    refine z_goto cx (tgt := 30) dX5_kindOf_16 ?_
    refine z_iret cx dX5_kindOf_30 ?_
    refine ⟨rfl, ?_⟩
    unfold kindB
    first | (rw [if_pos (by omega)]; done) | (rw [if_neg (by omega), if_pos (by omega)]; done) | (rw [if_neg (by omega), if_neg (by omega)]; done)
set_option maxRecDepth 100000 in
set_option maxHeartbeats 4000000 in
theorem c_X5_bestBlank {E : En} {G : Wd} {x : Int} {i : Nat} (hx : x = (i : Int)) {S : Sb} (hS : MSub (G 20 0) i S) (hT : SbOk S) (hi : i < 20) : Cti E yX5_bestBlank cX5_bestBlank 8 .int 3 67 [.ref (E.1 6), .int (iN (x))] G (fun z G' => G' = G ∧ z = bBl S.2.2) := by
  have t0 := hS.1
  have t1 := hS.2.1
  have t2 := hS.2.2.1
  have t3 := hS.2.2.2
  have o1 := hT.1
  have o2 := hT.2.1
  have o3 := hT.2.2.1
  have o4 := hT.2.2.2.1
  have o5 := hT.2.2.2.2.1
  have hTx := hT.2.2.2
  refine Cti.mk [some (.ref (E.1 6)), some (.int (iN (x))), none, none, none, none, none, none] (by decide) rfl (by intro v hv; simp only [List.mem_cons, List.not_mem_nil, or_false] at hv; rcases hv with rfl | rfl <;> rfl) (Nat.le_of_ble_eq_true rfl) ?_
  intro p l e s m args below meth c cx
  have L11 : ∀ (n : Nat) (j : Nat) (b kd off : Int), (60 - j) < n → (1 ≤ j ∧ j ≤ S.2.2.length) → (bbS S.2.2 j = (b, kd, off)) → Z p l e (zr 3 67) s m args below meth c 8 0 0 E (Qi_ E below args s (fun z G' => G' = G ∧ z = bBl S.2.2)) G 11 [some (.ref (E.1 6)), some (.int (iN (x))), some (.int (iN (b))), some (.int (iN (kd))), some (.int (iN (off))), some (.int (iN ((j : Int)))), none, none] [] := by
    intro n
    induction n with
    | zero =>
      intro j b kd off hmu
      exact absurd hmu (Nat.not_lt_zero _)
    | succ n ih11 =>
      intro j b kd off hmu hj hb
      have hbb := bbS_b S.2.2 o5 j (by omega)
      rw [hb] at hbb
      dsimp only at hbb
      have L85 : ∀ (zz : Int), (j < S.2.2.length) → (S.2.2.getD j 0 = 32) → (zz = 1 ∧ (kindB (S.2.2.getD (j - 1) 0) > kd ∨ kindB (S.2.2.getD (j - 1) 0) = kd ∧ ((2 * (j : Int) - (S.2.2.length - 1)).natAbs : Int) < off) ∨ zz = 0 ∧ ¬ (kindB (S.2.2.getD (j - 1) 0) > kd ∨ kindB (S.2.2.getD (j - 1) 0) = kd ∧ ((2 * (j : Int) - (S.2.2.length - 1)).natAbs : Int) < off)) → Z p l e (zr 3 67) s m args below meth c 8 0 0 E (Qi_ E below args s (fun z G' => G' = G ∧ z = bBl S.2.2)) G 85 [some (.ref (E.1 6)), some (.int (iN (x))), some (.int (iN (b))), some (.int (iN (kd))), some (.int (iN (off))), some (.int (iN ((j : Int)))), some (.int (iN (((2 * (j : Int) - (S.2.2.length - 1)).natAbs : Int)))), none] [.int (iN (zz))] := by
        intro zz hlt h32 hz
        have e9 := t3 (j - 1) (by omega)
        have hc9 := hTx.ch (i := j - 1) (by omega)
        have hkk := kindB_b (S.2.2.getD (j - 1) 0)
        refine z_istore cx dX5_bestBlank_85 ?_
        refine z_iload cx dX5_bestBlank_87 rfl ?_
        refine z_if_eq cx (tgt := 97) dX5_bestBlank_89 (fun h89 => ?_) (fun h89 => ?_)
        · skip
          refine z_iload_n cx dX5_bestBlank_97 rfl ?_
          refine z_istore_n cx dX5_bestBlank_98 ?_
          refine z_iload cx dX5_bestBlank_99 rfl ?_
          refine z_if_eq cx (tgt := 109) dX5_bestBlank_101 (fun h101 => ?_) (fun h101 => ?_)
          · skip
            refine z_iload cx dX5_bestBlank_109 rfl ?_
            refine z_istore cx dX5_bestBlank_111 ?_
            refine z_iload cx dX5_bestBlank_113 rfl ?_
            refine z_if_eq cx (tgt := 128) dX5_bestBlank_115 (fun h115 => ?_) (fun h115 => ?_)
            · skip
              refine z_iload_n cx dX5_bestBlank_128 rfl ?_
              refine z_istore_n cx dX5_bestBlank_129 ?_
              refine z_iinc cx dX5_bestBlank_130 rfl ?_
              refine z_goto cx (tgt := 11) dX5_bestBlank_133 ?_
              refine Z.locs (ih11 (j + 1) _ _ _ (by omega) (by omega) ?_) ⟨rfl, rfl, rfl, rfl, rfl, rfl, trivial⟩
              first
              | (exfalso; omega)
              | (rw [bbS_s, hb]; first | (rw [if_pos (by refine ⟨?_, ?_, ?_⟩ <;> (try dsimp only) <;> omega)]; done) | (rw [if_neg (by dsimp only; omega)]; done))
            · skip
              refine z_aload_n cx dX5_bestBlank_118 rfl ?_
              refine z_iload_n cx dX5_bestBlank_119 rfl ?_
              refine z_iload cx dX5_bestBlank_120 rfl ?_
              refine z_vi cx (c_X5_kindOf (20 + 43 * i + 3 + (j - 1)) (by omega) (by omega) e9 (by omega)) rfl mv_X5_kindOf ml_X5_171 (by omega) (co_mod E _) rfl dX5_bestBlank_122 (fun z122 G122 hz122 => ?_)
              obtain ⟨eG, rfl⟩ := hz122
              have eG := eG.symm
              subst eG
              refine z_goto cx (tgt := 129) dX5_bestBlank_125 ?_
              refine z_istore_n cx dX5_bestBlank_129 ?_
              refine z_iinc cx dX5_bestBlank_130 rfl ?_
              refine z_goto cx (tgt := 11) dX5_bestBlank_133 ?_
              refine Z.locs (ih11 (j + 1) _ _ _ (by omega) (by omega) ?_) ⟨rfl, rfl, rfl, rfl, rfl, rfl, trivial⟩
              first
              | (exfalso; omega)
              | (rw [bbS_s, hb]; first | (rw [if_pos (by refine ⟨?_, ?_, ?_⟩ <;> (try dsimp only) <;> omega)]; done) | (rw [if_neg (by dsimp only; omega)]; done))
          · skip
            refine z_iload cx dX5_bestBlank_104 rfl ?_
            refine z_goto cx (tgt := 111) dX5_bestBlank_106 ?_
            refine z_istore cx dX5_bestBlank_111 ?_
            refine z_iload cx dX5_bestBlank_113 rfl ?_
            refine z_if_eq cx (tgt := 128) dX5_bestBlank_115 (fun h115 => ?_) (fun h115 => ?_)
            · skip
              refine z_iload_n cx dX5_bestBlank_128 rfl ?_
              refine z_istore_n cx dX5_bestBlank_129 ?_
              refine z_iinc cx dX5_bestBlank_130 rfl ?_
              refine z_goto cx (tgt := 11) dX5_bestBlank_133 ?_
              refine Z.locs (ih11 (j + 1) _ _ _ (by omega) (by omega) ?_) ⟨rfl, rfl, rfl, rfl, rfl, rfl, trivial⟩
              first
              | (exfalso; omega)
              | (rw [bbS_s, hb]; first | (rw [if_pos (by refine ⟨?_, ?_, ?_⟩ <;> (try dsimp only) <;> omega)]; done) | (rw [if_neg (by dsimp only; omega)]; done))
            · skip
              refine z_aload_n cx dX5_bestBlank_118 rfl ?_
              refine z_iload_n cx dX5_bestBlank_119 rfl ?_
              refine z_iload cx dX5_bestBlank_120 rfl ?_
              refine z_vi cx (c_X5_kindOf (20 + 43 * i + 3 + (j - 1)) (by omega) (by omega) e9 (by omega)) rfl mv_X5_kindOf ml_X5_171 (by omega) (co_mod E _) rfl dX5_bestBlank_122 (fun z122 G122 hz122 => ?_)
              obtain ⟨eG, rfl⟩ := hz122
              have eG := eG.symm
              subst eG
              refine z_goto cx (tgt := 129) dX5_bestBlank_125 ?_
              refine z_istore_n cx dX5_bestBlank_129 ?_
              refine z_iinc cx dX5_bestBlank_130 rfl ?_
              refine z_goto cx (tgt := 11) dX5_bestBlank_133 ?_
              refine Z.locs (ih11 (j + 1) _ _ _ (by omega) (by omega) ?_) ⟨rfl, rfl, rfl, rfl, rfl, rfl, trivial⟩
              first
              | (exfalso; omega)
              | (rw [bbS_s, hb]; first | (rw [if_pos (by refine ⟨?_, ?_, ?_⟩ <;> (try dsimp only) <;> omega)]; done) | (rw [if_neg (by dsimp only; omega)]; done))
        · skip
          refine z_iload cx dX5_bestBlank_92 rfl ?_
          refine z_goto cx (tgt := 98) dX5_bestBlank_94 ?_
          refine z_istore_n cx dX5_bestBlank_98 ?_
          refine z_iload cx dX5_bestBlank_99 rfl ?_
          refine z_if_eq cx (tgt := 109) dX5_bestBlank_101 (fun h101 => ?_) (fun h101 => ?_)
          · skip
            refine z_iload cx dX5_bestBlank_109 rfl ?_
            refine z_istore cx dX5_bestBlank_111 ?_
            refine z_iload cx dX5_bestBlank_113 rfl ?_
            refine z_if_eq cx (tgt := 128) dX5_bestBlank_115 (fun h115 => ?_) (fun h115 => ?_)
            · skip
              refine z_iload_n cx dX5_bestBlank_128 rfl ?_
              refine z_istore_n cx dX5_bestBlank_129 ?_
              refine z_iinc cx dX5_bestBlank_130 rfl ?_
              refine z_goto cx (tgt := 11) dX5_bestBlank_133 ?_
              refine Z.locs (ih11 (j + 1) _ _ _ (by omega) (by omega) ?_) ⟨rfl, rfl, rfl, rfl, rfl, rfl, trivial⟩
              first
              | (exfalso; omega)
              | (rw [bbS_s, hb]; first | (rw [if_pos (by refine ⟨?_, ?_, ?_⟩ <;> (try dsimp only) <;> omega)]; done) | (rw [if_neg (by dsimp only; omega)]; done))
            · skip
              refine z_aload_n cx dX5_bestBlank_118 rfl ?_
              refine z_iload_n cx dX5_bestBlank_119 rfl ?_
              refine z_iload cx dX5_bestBlank_120 rfl ?_
              refine z_vi cx (c_X5_kindOf (20 + 43 * i + 3 + (j - 1)) (by omega) (by omega) e9 (by omega)) rfl mv_X5_kindOf ml_X5_171 (by omega) (co_mod E _) rfl dX5_bestBlank_122 (fun z122 G122 hz122 => ?_)
              obtain ⟨eG, rfl⟩ := hz122
              have eG := eG.symm
              subst eG
              refine z_goto cx (tgt := 129) dX5_bestBlank_125 ?_
              refine z_istore_n cx dX5_bestBlank_129 ?_
              refine z_iinc cx dX5_bestBlank_130 rfl ?_
              refine z_goto cx (tgt := 11) dX5_bestBlank_133 ?_
              refine Z.locs (ih11 (j + 1) _ _ _ (by omega) (by omega) ?_) ⟨rfl, rfl, rfl, rfl, rfl, rfl, trivial⟩
              first
              | (exfalso; omega)
              | (rw [bbS_s, hb]; first | (rw [if_pos (by refine ⟨?_, ?_, ?_⟩ <;> (try dsimp only) <;> omega)]; done) | (rw [if_neg (by dsimp only; omega)]; done))
          · skip
            refine z_iload cx dX5_bestBlank_104 rfl ?_
            refine z_goto cx (tgt := 111) dX5_bestBlank_106 ?_
            refine z_istore cx dX5_bestBlank_111 ?_
            refine z_iload cx dX5_bestBlank_113 rfl ?_
            refine z_if_eq cx (tgt := 128) dX5_bestBlank_115 (fun h115 => ?_) (fun h115 => ?_)
            · skip
              refine z_iload_n cx dX5_bestBlank_128 rfl ?_
              refine z_istore_n cx dX5_bestBlank_129 ?_
              refine z_iinc cx dX5_bestBlank_130 rfl ?_
              refine z_goto cx (tgt := 11) dX5_bestBlank_133 ?_
              refine Z.locs (ih11 (j + 1) _ _ _ (by omega) (by omega) ?_) ⟨rfl, rfl, rfl, rfl, rfl, rfl, trivial⟩
              first
              | (exfalso; omega)
              | (rw [bbS_s, hb]; first | (rw [if_pos (by refine ⟨?_, ?_, ?_⟩ <;> (try dsimp only) <;> omega)]; done) | (rw [if_neg (by dsimp only; omega)]; done))
            · skip
              refine z_aload_n cx dX5_bestBlank_118 rfl ?_
              refine z_iload_n cx dX5_bestBlank_119 rfl ?_
              refine z_iload cx dX5_bestBlank_120 rfl ?_
              refine z_vi cx (c_X5_kindOf (20 + 43 * i + 3 + (j - 1)) (by omega) (by omega) e9 (by omega)) rfl mv_X5_kindOf ml_X5_171 (by omega) (co_mod E _) rfl dX5_bestBlank_122 (fun z122 G122 hz122 => ?_)
              obtain ⟨eG, rfl⟩ := hz122
              have eG := eG.symm
              subst eG
              refine z_goto cx (tgt := 129) dX5_bestBlank_125 ?_
              refine z_istore_n cx dX5_bestBlank_129 ?_
              refine z_iinc cx dX5_bestBlank_130 rfl ?_
              refine z_goto cx (tgt := 11) dX5_bestBlank_133 ?_
              refine Z.locs (ih11 (j + 1) _ _ _ (by omega) (by omega) ?_) ⟨rfl, rfl, rfl, rfl, rfl, rfl, trivial⟩
              first
              | (exfalso; omega)
              | (rw [bbS_s, hb]; first | (rw [if_pos (by refine ⟨?_, ?_, ?_⟩ <;> (try dsimp only) <;> omega)]; done) | (rw [if_neg (by dsimp only; omega)]; done))
      refine z_iload cx dX5_bestBlank_11 rfl ?_
      refine z_aload_n cx dX5_bestBlank_13 rfl ?_
      refine z_iload_n cx dX5_bestBlank_14 rfl ?_
      refine z_iconst cx dX5_bestBlank_15 ?_
      refine z_vi cx (c_X5_of (20 + 43 * i + 2) (by omega) (by omega)) rfl mv_X5_of ml_X5_43 (by omega) (co_mod E _) rfl dX5_bestBlank_16 (fun z16 G16 hz16 => ?_)
      obtain ⟨eG, rfl⟩ := hz16
      have eG := eG.symm
      subst eG
      rw [t2]
      refine z_icmp_ge cx (tgt := 136) dX5_bestBlank_19 (fun h19 => ?_) (fun h19 => ?_)
      · skip
        refine z_iload_n cx dX5_bestBlank_136 rfl ?_
        refine z_iret cx dX5_bestBlank_137 ?_
        refine ⟨rfl, ?_⟩
        have hjl : j = S.2.2.length := by omega
        subst hjl
        unfold bBl
        rw [hb]
      · skip
        have e8 := t3 j (by omega)
        have hc := hTx.ch (i := j) (by omega)
        have e9 := t3 (j - 1) (by omega)
        have hc9 := hTx.ch (i := j - 1) (by omega)
        have hkk := kindB_b (S.2.2.getD (j - 1) 0)
        refine z_aload_n cx dX5_bestBlank_22 rfl ?_
        refine z_iload_n cx dX5_bestBlank_23 rfl ?_
        refine z_iload cx dX5_bestBlank_24 rfl ?_
        refine z_vi cx (c_X5_letter (20 + 43 * i + 3 + j) (by omega) (by omega)) rfl mv_X5_letter ml_X5_59 (by omega) (co_mod E _) rfl dX5_bestBlank_26 (fun z26 G26 hz26 => ?_)
        obtain ⟨eG, rfl⟩ := hz26
        have eG := eG.symm
        subst eG
        refine z_bipush cx dX5_bestBlank_29 ?_
        refine z_icmp_ne cx (tgt := 130) dX5_bestBlank_31 (fun h31 => ?_) (fun h31 => ?_)
        · skip
          refine z_iinc cx dX5_bestBlank_130 rfl ?_
          refine z_goto cx (tgt := 11) dX5_bestBlank_133 ?_
          refine Z.locs (ih11 (j + 1) _ _ _ (by omega) (by omega) ?_) ⟨rfl, rfl, rfl, rfl, rfl, rfl, trivial⟩
          first
          | (exfalso; omega)
          | (rw [bbS_s, hb]; first | (rw [if_pos (by refine ⟨?_, ?_, ?_⟩ <;> (try dsimp only) <;> omega)]; done) | (rw [if_neg (by dsimp only; omega)]; done))
        · skip
          refine z_iconst cx dX5_bestBlank_34 ?_
          refine z_iload cx dX5_bestBlank_35 rfl ?_
          refine z_imul cx dX5_bestBlank_37 ?_
          refine z_aload_n cx dX5_bestBlank_38 rfl ?_
          refine z_iload_n cx dX5_bestBlank_39 rfl ?_
          refine z_iconst cx dX5_bestBlank_40 ?_
          refine z_vi cx (c_X5_of (20 + 43 * i + 2) (by omega) (by omega)) rfl mv_X5_of ml_X5_43 (by omega) (co_mod E _) rfl dX5_bestBlank_41 (fun z41 G41 hz41 => ?_)
          obtain ⟨eG, rfl⟩ := hz41
          have eG := eG.symm
          subst eG
          rw [t2]
          refine z_iconst cx dX5_bestBlank_44 ?_
          refine z_isub cx dX5_bestBlank_45 ?_
          refine z_si cx (c_X5_far (by omega)) rfl ms_X5_far ml_X5_82 dX5_bestBlank_46 (fun z46 G46 hz46 => ?_)
          obtain ⟨eG, rfl⟩ := hz46
          have eG := eG.symm
          subst eG
          refine z_istore cx dX5_bestBlank_49 ?_
          refine z_aload_n cx dX5_bestBlank_51 rfl ?_
          refine z_iload_n cx dX5_bestBlank_52 rfl ?_
          refine z_iload cx dX5_bestBlank_53 rfl ?_
          refine z_vi cx (c_X5_kindOf (20 + 43 * i + 3 + (j - 1)) (by omega) (by omega) e9 (by omega)) rfl mv_X5_kindOf ml_X5_171 (by omega) (co_mod E _) rfl dX5_bestBlank_55 (fun z55 G55 hz55 => ?_)
          obtain ⟨eG, rfl⟩ := hz55
          have eG := eG.symm
          subst eG
          refine z_iload_n cx dX5_bestBlank_58 rfl ?_
          refine z_icmp_gt cx (tgt := 80) dX5_bestBlank_59 (fun h59 => ?_) (fun h59 => ?_)
          · skip
            refine z_iconst cx dX5_bestBlank_80 ?_
            refine z_goto cx (tgt := 85) dX5_bestBlank_81 ?_
            refine Z.locs (L85 _ (by omega) (by omega) ?_) ⟨rfl, rfl, rfl, rfl, rfl, rfl, rfl, trivial⟩
            first
            | exact Or.inl ⟨rfl, by omega⟩
            | exact Or.inr ⟨rfl, by omega⟩
          · skip
            refine z_aload_n cx dX5_bestBlank_62 rfl ?_
            refine z_iload_n cx dX5_bestBlank_63 rfl ?_
            refine z_iload cx dX5_bestBlank_64 rfl ?_
            refine z_vi cx (c_X5_kindOf (20 + 43 * i + 3 + (j - 1)) (by omega) (by omega) e9 (by omega)) rfl mv_X5_kindOf ml_X5_171 (by omega) (co_mod E _) rfl dX5_bestBlank_66 (fun z66 G66 hz66 => ?_)
            obtain ⟨eG, rfl⟩ := hz66
            have eG := eG.symm
            subst eG
            refine z_iload_n cx dX5_bestBlank_69 rfl ?_
            refine z_icmp_ne cx (tgt := 84) dX5_bestBlank_70 (fun h70 => ?_) (fun h70 => ?_)
            · skip
              refine z_iconst cx dX5_bestBlank_84 ?_
              refine Z.locs (L85 _ (by omega) (by omega) ?_) ⟨rfl, rfl, rfl, rfl, rfl, rfl, rfl, trivial⟩
              first
              | exact Or.inl ⟨rfl, by omega⟩
              | exact Or.inr ⟨rfl, by omega⟩
            · skip
              refine z_iload cx dX5_bestBlank_73 rfl ?_
              refine z_iload cx dX5_bestBlank_75 rfl ?_
              refine z_icmp_ge cx (tgt := 84) dX5_bestBlank_77 (fun h77 => ?_) (fun h77 => ?_)
              · skip
                refine z_iconst cx dX5_bestBlank_84 ?_
                refine Z.locs (L85 _ (by omega) (by omega) ?_) ⟨rfl, rfl, rfl, rfl, rfl, rfl, rfl, trivial⟩
                first
                | exact Or.inl ⟨rfl, by omega⟩
                | exact Or.inr ⟨rfl, by omega⟩
              · skip
                refine z_iconst cx dX5_bestBlank_80 ?_
                refine z_goto cx (tgt := 85) dX5_bestBlank_81 ?_
                refine Z.locs (L85 _ (by omega) (by omega) ?_) ⟨rfl, rfl, rfl, rfl, rfl, rfl, rfl, trivial⟩
                first
                | exact Or.inl ⟨rfl, by omega⟩
                | exact Or.inr ⟨rfl, by omega⟩
  refine z_bipush cx dX5_bestBlank_0 ?_
  refine z_istore_n cx dX5_bestBlank_2 ?_
  refine z_iconst cx dX5_bestBlank_3 ?_
  refine z_istore_n cx dX5_bestBlank_4 ?_
  refine z_iconst cx dX5_bestBlank_5 ?_
  refine z_istore cx dX5_bestBlank_6 ?_
  refine z_iconst cx dX5_bestBlank_8 ?_
  refine z_istore cx dX5_bestBlank_9 ?_
  refine Z.locs (L11 _ (1) (-6) (0) (0) (Nat.lt_succ_self _) (by omega) (bbS_1 _)) ⟨rfl, rfl, rfl, rfl, rfl, rfl, trivial⟩
set_option maxRecDepth 100000 in
set_option maxHeartbeats 4000000 in
theorem c_X5_meanSpeed {E : En} {G : Wd} {A : Ast} (hR : MRel G A) (hA : AOk A) : Ctf E yX5_meanSpeed cX5_meanSpeed 3 3 65 [.ref (E.1 6)] G (fun z G' => z = meanV A.1 ∧ MRel G' A ∧ CFx G G') := by
  have hM := hR.1
  have hO := hA.1
  obtain ⟨hmv1, hmv2, hmv3, hmv4⟩ := meanV_ok hO
  obtain ⟨m0, mV, m7, mC, mS⟩ := id hM
  obtain ⟨hOv, hOc, hOs⟩ := id hO
  have hl20 := hOs.1
  have hl12 := hOc.1
  obtain ⟨hv0, hv1, hv2, hv3, hv4, hv5⟩ := id hOv
  have v0 : G 20 0 1 = A.1.1 0 := mV 0 (by omega)
  have v1 : G 20 0 2 = A.1.1 1 := mV 1 (by omega)
  have v2 : G 20 0 3 = A.1.1 2 := mV 2 (by omega)
  have v3 : G 20 0 4 = A.1.1 3 := mV 3 (by omega)
  have v4 : G 20 0 5 = A.1.1 4 := mV 4 (by omega)
  have v5 : G 20 0 6 = A.1.1 5 := mV 5 (by omega)
  refine Ctf.mk [some (.ref (E.1 6)), none, none] (by decide) rfl (by intro v hv; simp only [List.mem_cons, List.not_mem_nil, or_false] at hv; subst hv; rfl) (Nat.le_of_ble_eq_true rfl) ?_
  intro p l e s m args below meth c cx
  have L4 : ∀ (n : Nat) (j : Nat), (60 - j) < n → (j ≤ A.1.2.2.length) → Z p l e (zr 3 65) s m args below meth c 3 0 0 E (Qf_ E below args s (fun z G' => z = meanV A.1 ∧ MRel G' A ∧ CFx G G')) G 4 [some (.ref (E.1 6)), some (.int (iN (sumN (fun i => ((A.1.2.2.getD i dS).2.2.length : Int)) j))), some (.int (iN ((j : Int))))] [] := by
    intro n
    induction n with
    | zero =>
      intro j hmu
      exact absurd hmu (Nat.not_lt_zero _)
    | succ n ih =>
      intro j hmu hj
      refine z_iload_n cx dX5_meanSpeed_4 rfl ?_
      refine z_aload_n cx dX5_meanSpeed_5 rfl ?_
      refine g_X5_0 cx fl_X5_7 dX5_meanSpeed_6 ?_
      refine z_iconst cx dX5_meanSpeed_9 ?_
      refine z_iald cx (0) (by omega) (by omega) (co_s E _) dX5_meanSpeed_10 ?_
      refine z_icmp_ge cx (tgt := 29) dX5_meanSpeed_11 (fun h11 => ?_) (fun h11 => ?_)
      · skip
        have hjl : j = A.1.2.2.length := by omega
        rw [hjl]
        have hle : sumN (fun i => ((A.1.2.2.getD i dS).2.2.length : Int)) A.1.2.2.length = lnS A.1 := rfl
        rw [hle]
        refine z_aload_n cx dX5_meanSpeed_29 rfl ?_
        refine g_X5_0 cx fl_X5_7 dX5_meanSpeed_30 ?_
        refine z_iconst cx dX5_meanSpeed_33 ?_
        refine z_iald cx (0) (by omega) (by omega) (co_s E _) dX5_meanSpeed_34 ?_
        refine z_if_ne cx (tgt := 42) dX5_meanSpeed_35 (fun h35 => ?_) (fun h35 => ?_)
        · skip
          refine z_iload_n cx dX5_meanSpeed_42 rfl ?_
          refine z_i2f cx dX5_meanSpeed_43 ?_
          refine z_ldcf cx ct_X5_198 dX5_meanSpeed_44 ?_
          refine z_fmul cx dX5_meanSpeed_46 ?_
          refine z_aload_n cx dX5_meanSpeed_47 rfl ?_
          refine z_vi cx (c_X5_allFrames hM hO) rfl mv_X5_allFrames ml_X5_195 (by omega) (co_mod E _) rfl dX5_meanSpeed_48 (fun z48 G48 hz48 => ?_)
          obtain ⟨eG, rfl⟩ := hz48
          have eG := eG.symm
          subst eG
          refine z_i2f cx dX5_meanSpeed_51 ?_
          refine z_fdiv cx (by omega) dX5_meanSpeed_52 ?_
          refine z_fret cx dX5_meanSpeed_53 ?_
          refine ⟨?_, hR, CFx.rf⟩
          unfold meanV
          rw [if_neg (by omega)]
        · skip
          refine z_fconst0 cx dX5_meanSpeed_38 ?_
          refine z_goto cx (tgt := 53) dX5_meanSpeed_39 ?_
          refine z_fret cx dX5_meanSpeed_53 ?_
          refine ⟨?_, hR, CFx.rf⟩
          unfold meanV
          rw [if_pos (by omega)]
      · skip
        have hs_ := mS (j) (by omega)
        have ho := hOs.2.1 (j) (by omega)
        have t0 := hs_.1
        have t1 := hs_.2.1
        have t2 := hs_.2.2.1
        have t3 := hs_.2.2.2
        have o1 := ho.1
        have o2 := ho.2.1
        have o3 := ho.2.2.1
        have o4 := ho.2.2.2.1
        have o5 := ho.2.2.2.2.1
        refine z_iload_n cx dX5_meanSpeed_14 rfl ?_
        refine z_aload_n cx dX5_meanSpeed_15 rfl ?_
        refine z_iload_n cx dX5_meanSpeed_16 rfl ?_
        refine z_iconst cx dX5_meanSpeed_17 ?_
        refine z_vi cx (c_X5_of (20 + 43 * j + 2) (by omega) (by omega)) rfl mv_X5_of ml_X5_43 (by omega) (co_mod E _) rfl dX5_meanSpeed_18 (fun z18 G18 hz18 => ?_)
        obtain ⟨eG, rfl⟩ := hz18
        have eG := eG.symm
        subst eG
        rw [t2]
        refine z_iadd cx dX5_meanSpeed_21 ?_
        refine z_istore_n cx dX5_meanSpeed_22 ?_
        refine z_iinc cx dX5_meanSpeed_23 rfl ?_
        refine z_goto cx (tgt := 4) dX5_meanSpeed_26 ?_
        refine Z.locs (ih (j + 1) (by omega) (by omega)) ⟨rfl, rfl, rfl, trivial⟩
  refine z_iconst cx dX5_meanSpeed_0 ?_
  refine z_istore_n cx dX5_meanSpeed_1 ?_
  refine z_iconst cx dX5_meanSpeed_2 ?_
  refine z_istore_n cx dX5_meanSpeed_3 ?_
  refine Z.locs (L4 _ (0) (Nat.lt_succ_self _) (by omega)) ⟨rfl, rfl, rfl, trivial⟩
def PcP (C : List Int) (x : Int) (j : Nat) (z : Int) : Prop := z = -1 ∧ (∀ i, i < j → C.getD i 0 ≠ x) ∨ ∃ i : Nat, z = i ∧ i < C.length ∧ C.getD i 0 = x
set_option maxRecDepth 100000 in
set_option maxHeartbeats 4000000 in
theorem c_X5_placeOfCut {E : En} {G : Wd} {x : Int} {C : List Int} (hcc : G 20 0 7 = (C.length : Int)) (hcu : ∀ i, i < C.length → G 20 0 (8 + i) = C.getD i 0) (hOc : CuOk C) (hx : -2147483648 ≤ x ∧ x < 2147483648) : Cti E yX5_placeOfCut cX5_placeOfCut 4 .int 0 0 [.ref (E.1 6), .int (iN (x))] G (fun z G' => G' = G ∧ PcP C x C.length z) := by
  have hl12 := hOc.1
  refine Cti.mk [some (.ref (E.1 6)), some (.int (iN (x))), none, none] (by decide) rfl (by intro v hv; simp only [List.mem_cons, List.not_mem_nil, or_false] at hv; rcases hv with rfl | rfl <;> rfl) (Nat.le_of_ble_eq_true rfl) ?_
  intro p l e s m args below meth c cx
  have L4 : ∀ (n : Nat) (j : Nat) (fd : Int), (60 - j) < n → (j ≤ C.length) → (PcP C x j fd) → Z p l e (zr 0 0) s m args below meth c 4 0 0 E (Qi_ E below args s (fun z G' => G' = G ∧ PcP C x C.length z)) G 4 [some (.ref (E.1 6)), some (.int (iN (x))), some (.int (iN (fd))), some (.int (iN ((j : Int))))] [] := by
    intro n
    induction n with
    | zero =>
      intro j fd hmu
      exact absurd hmu (Nat.not_lt_zero _)
    | succ n ih =>
      intro j fd hmu hj hN
      refine z_iload_n cx dX5_placeOfCut_4 rfl ?_
      refine z_aload_n cx dX5_placeOfCut_5 rfl ?_
      refine g_X5_0 cx fl_X5_7 dX5_placeOfCut_6 ?_
      refine z_bipush cx dX5_placeOfCut_9 ?_
      refine z_iald cx (7) (by omega) (by omega) (co_s E _) dX5_placeOfCut_11 ?_
      refine z_icmp_ge cx (tgt := 40) dX5_placeOfCut_12 (fun h12 => ?_) (fun h12 => ?_)
      · skip
        refine z_iload_n cx dX5_placeOfCut_40 rfl ?_
        refine z_iret cx dX5_placeOfCut_41 ?_
        exact ⟨rfl, (show j = C.length by omega) ▸ hN⟩
      · skip
        have ec := hcu j (by omega)
        have hcb := hOc.2.1 j (by omega)
        refine z_aload_n cx dX5_placeOfCut_15 rfl ?_
        refine g_X5_0 cx fl_X5_7 dX5_placeOfCut_16 ?_
        refine z_bipush cx dX5_placeOfCut_19 ?_
        refine z_iload_n cx dX5_placeOfCut_21 rfl ?_
        refine z_iadd cx dX5_placeOfCut_22 ?_
        refine z_iald cx (8 + j) (by omega) (by omega) (co_s E _) dX5_placeOfCut_23 ?_
        refine z_iload_n cx dX5_placeOfCut_24 rfl ?_
        refine z_icmp_ne cx (tgt := 32) dX5_placeOfCut_25 (fun h25 => ?_) (fun h25 => ?_)
        · skip
          refine z_iload_n cx dX5_placeOfCut_32 rfl ?_
          refine z_istore_n cx dX5_placeOfCut_33 ?_
          refine z_iinc cx dX5_placeOfCut_34 rfl ?_
          refine z_goto cx (tgt := 4) dX5_placeOfCut_37 ?_
          refine Z.locs (ih (j + 1) _ (by omega) (by omega) ?_) ⟨rfl, rfl, rfl, rfl, trivial⟩
          first
          | exact Or.inr ⟨j, rfl, by omega, by omega⟩
          | (rcases hN with ⟨g1, g2⟩ | hN
             · exact Or.inl ⟨g1, fun i h => by
                 rcases Nat.lt_succ_iff_lt_or_eq.mp h with h | rfl
                 · exact g2 i h
                 · omega⟩
             · exact Or.inr hN)
        · skip
          refine z_iload_n cx dX5_placeOfCut_28 rfl ?_
          refine z_goto cx (tgt := 33) dX5_placeOfCut_29 ?_
          refine z_istore_n cx dX5_placeOfCut_33 ?_
          refine z_iinc cx dX5_placeOfCut_34 rfl ?_
          refine z_goto cx (tgt := 4) dX5_placeOfCut_37 ?_
          refine Z.locs (ih (j + 1) _ (by omega) (by omega) ?_) ⟨rfl, rfl, rfl, rfl, trivial⟩
          first
          | exact Or.inr ⟨j, rfl, by omega, by omega⟩
          | (rcases hN with ⟨g1, g2⟩ | hN
             · exact Or.inl ⟨g1, fun i h => by
                 rcases Nat.lt_succ_iff_lt_or_eq.mp h with h | rfl
                 · exact g2 i h
                 · omega⟩
             · exact Or.inr hN)
  refine z_iconst cx dX5_placeOfCut_0 ?_
  refine z_istore_n cx dX5_placeOfCut_1 ?_
  refine z_iconst cx dX5_placeOfCut_2 ?_
  refine z_istore_n cx dX5_placeOfCut_3 ?_
  refine Z.locs (L4 _ (0) (-1) (Nat.lt_succ_self _) (by omega) (Or.inl ⟨rfl, fun i h => absurd h (Nat.not_lt_zero _)⟩)) ⟨rfl, rfl, rfl, rfl, trivial⟩
set_option maxRecDepth 100000 in
set_option maxHeartbeats 4000000 in
theorem c_X5_leastPace {E : En} {G : Wd} {A : Ast} (hR : MRel G A) (hA : AOk A) : Cti E yX5_leastPace cX5_leastPace 3 .int 4 88 [.ref (E.1 6)] G (fun z G' => z = lpF A.1 ∧ MRel G' A ∧ CFx G G') := by
  have hM := hR.1
  have hO := hA.1
  refine Cti.mk [some (.ref (E.1 6)), none, none] (by decide) rfl (by intro v hv; simp only [List.mem_cons, List.not_mem_nil, or_false] at hv; subst hv; rfl) (Nat.le_of_ble_eq_true rfl) ?_
  intro p l e s m args below meth c cx
  have L6 : ∀ (n : Nat) (k : Nat) (fd : Int), k < n → (k ≤ 60) → ((fd = -6 ∧ ∀ q : Int, k < q → q ≤ 60 → unr A.1 q ≠ 0) ∨ (k < fd ∧ fd ≤ 60 ∧ unr A.1 fd = 0 ∧ ∀ q : Int, k < q → q < fd → unr A.1 q ≠ 0)) → Z p l e (zr 4 88) s m args below meth c 3 0 0 E (Qi_ E below args s (fun z G' => z = lpF A.1 ∧ MRel G' A ∧ CFx G G')) G 6 [some (.ref (E.1 6)), some (.int (iN (fd))), some (.int (iN ((k : Int))))] [] := by
    intro n
    induction n with
    | zero =>
      intro k fd hmu
      exact absurd hmu (Nat.not_lt_zero _)
    | succ n ih =>
      intro k fd hmu hk hN
      refine z_iload_n cx dX5_leastPace_6 rfl ?_
      refine z_if_le cx (tgt := 30) dX5_leastPace_7 (fun h7 => ?_) (fun h7 => ?_)
      · skip
        refine z_iload_n cx dX5_leastPace_30 rfl ?_
        refine z_iret cx dX5_leastPace_31 ?_
        refine ⟨(lpF_of ?_).symm, hR, CFx.rf⟩
        rcases hN with ⟨g1, g2⟩ | ⟨g1, g2, g3, g4⟩
        · exact Or.inl ⟨g1, fun q h1 h2 => g2 q (by omega) h2⟩
        · exact Or.inr ⟨by omega, g2, g3, fun q h1 h2 => g4 q (by omega) h2⟩
      · skip
        refine z_aload_n cx dX5_leastPace_10 rfl ?_
        refine z_iload_n cx dX5_leastPace_11 rfl ?_
        refine z_vi cx (c_X5_unreadBy (F := A.1) hM hO (by omega)) rfl mv_X5_unreadBy ml_X5_199 (by omega) (co_mod E _) rfl dX5_leastPace_12 (fun z12 G12 hz12 => ?_)
        obtain ⟨eG, rfl⟩ := hz12
        have eG := eG.symm
        subst eG
        have hub := unr_b A.1 (k : Int)
        have hl20 := hO.2.2.1
        refine z_if_ne cx (tgt := 22) dX5_leastPace_15 (fun h15 => ?_) (fun h15 => ?_)
        · skip
          refine z_iload_n cx dX5_leastPace_22 rfl ?_
          refine z_istore_n cx dX5_leastPace_23 ?_
          refine z_iinc cx dX5_leastPace_24 rfl ?_
          refine z_goto cx (tgt := 6) dX5_leastPace_27 ?_
          rw [show ((k : Int) + -1) = ((k - 1 : Nat) : Int) by omega]
          refine Z.locs (ih (k - 1) _ (by omega) (by omega) ?_) ⟨rfl, rfl, rfl, trivial⟩
          first
          | exact Or.inr ⟨by omega, by omega, h15, fun q h1 h2 => by omega⟩
          | (rcases hN with ⟨g1, g2⟩ | ⟨g1, g2, g3, g4⟩
             · exact Or.inl ⟨g1, fun q h1 h2 => by
                 by_cases w : q = k
                 · subst w; exact h15
                 · exact g2 q (by omega) h2⟩
             · exact Or.inr ⟨by omega, g2, g3, fun q h1 h2 => by
                 by_cases w : q = k
                 · subst w; exact h15
                 · exact g4 q (by omega) h2⟩)
        · skip
          refine z_iload_n cx dX5_leastPace_18 rfl ?_
          refine z_goto cx (tgt := 23) dX5_leastPace_19 ?_
          refine z_istore_n cx dX5_leastPace_23 ?_
          refine z_iinc cx dX5_leastPace_24 rfl ?_
          refine z_goto cx (tgt := 6) dX5_leastPace_27 ?_
          rw [show ((k : Int) + -1) = ((k - 1 : Nat) : Int) by omega]
          refine Z.locs (ih (k - 1) _ (by omega) (by omega) ?_) ⟨rfl, rfl, rfl, trivial⟩
          first
          | exact Or.inr ⟨by omega, by omega, h15, fun q h1 h2 => by omega⟩
          | (rcases hN with ⟨g1, g2⟩ | ⟨g1, g2, g3, g4⟩
             · exact Or.inl ⟨g1, fun q h1 h2 => by
                 by_cases w : q = k
                 · subst w; exact h15
                 · exact g2 q (by omega) h2⟩
             · exact Or.inr ⟨by omega, g2, g3, fun q h1 h2 => by
                 by_cases w : q = k
                 · subst w; exact h15
                 · exact g4 q (by omega) h2⟩)
  refine z_bipush cx dX5_leastPace_0 ?_
  refine z_istore_n cx dX5_leastPace_2 ?_
  refine z_bipush cx dX5_leastPace_3 ?_
  refine z_istore_n cx dX5_leastPace_5 ?_
  refine Z.locs (L6 _ (60) (-6) (Nat.lt_succ_self _) (by omega) (Or.inl ⟨rfl, fun q h1 h2 => by omega⟩)) ⟨rfl, rfl, rfl, trivial⟩
