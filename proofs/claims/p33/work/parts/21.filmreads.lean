set_option maxRecDepth 100000 in
set_option maxHeartbeats 4000000 in
theorem c_X0_quotient {E : En} {G : Wd} {x y : Int} (hx : 0 ≤ x ∧ x < 2147483648) (hy : 1 ≤ y ∧ y < 2147483648) : Cti E yX0_quotient cX0_quotient 2 .int 0 0 [.int (iN x), .int (iN y)] G (fun z G' => G' = G ∧ z = x / y) := by
  refine Cti.mk [some (.int (iN x)), some (.int (iN y))] (by decide) rfl (by intro v hv; simp only [List.mem_cons, List.not_mem_nil, or_false] at hv; rcases hv with rfl | rfl <;> rfl) (Nat.le_of_ble_eq_true rfl) ?_
  intro p l e s m args below meth c cx
  refine z_iload_n cx dX0_quotient_0 rfl ?_
  refine z_iconst cx dX0_quotient_1 ?_
  refine z_icmp_ge cx (tgt := 9) dX0_quotient_2 (fun h2 => ?_) (fun h2 => ?_)
  · skip
    refine z_iload_n cx dX0_quotient_9 rfl ?_
    refine z_iload_n cx dX0_quotient_10 rfl ?_
    refine z_idiv cx dX0_quotient_11 ?_
    refine z_iret cx dX0_quotient_12 ?_
    exact ⟨rfl, rfl⟩
  · skip
    exfalso; omega
set_option maxRecDepth 100000 in
set_option maxHeartbeats 4000000 in
theorem c_X0_has {E : En} {G : Wd} {q : Nat} {F : Fm} {x : Int} (hq : q < 6) (hF : FilmIs G q F) (hO : FOk F) (hx : -2147483648 ≤ x ∧ x < 2147483648) : Cti E yX0_has cX0_has 2 .boolean 0 0 [.ref (E.1 (14 + q)), .int (iN x)] G (fun z G' => G' = G ∧ (z = 1 ∧ 0 ≤ x ∧ x < F.2.2.length ∨ z = 0 ∧ ¬ (0 ≤ x ∧ x < F.2.2.length))) := by
  obtain ⟨hR, hV, hcc, hcu, hn, hs⟩ := id hF
  obtain ⟨hOv, hOc, hOs⟩ := id hO
  have hl20 := hOs.1
  have hl12 := hOc.1
  obtain ⟨hv0, hv1, hv2, hv3, hv4, hv5⟩ := id hOv
  have w0 := hV 0 (by omega)
  have w1 := hV 1 (by omega)
  have w2 := hV 2 (by omega)
  have w3 := hV 3 (by omega)
  have w4 := hV 4 (by omega)
  have w5 := hV 5 (by omega)
  refine Cti.mk [some (.ref (E.1 (14 + q))), some (.int (iN x))] (by decide) rfl (by intro v hv; simp only [List.mem_cons, List.not_mem_nil, or_false] at hv; rcases hv with rfl | rfl <;> rfl) (Nat.le_of_ble_eq_true rfl) ?_
  intro p l e s m args below meth c cx
  refine z_iload_n cx dX0_has_0 rfl ?_
  refine z_if_lt cx (tgt := 16) dX0_has_1 (fun h1 => ?_) (fun h1 => ?_)
  · skip
    refine z_iconst cx dX0_has_16 ?_
    refine z_zret cx dX0_has_17 ?_
    exact ⟨rfl, by omega⟩
  · skip
    refine z_iload_n cx dX0_has_4 rfl ?_
    refine z_aload_n cx dX0_has_5 rfl ?_
    refine g_X0_1 cx (by omega) fl_X0_34 dX0_has_6 ?_
    refine z_icmp_ge cx (tgt := 16) dX0_has_9 (fun h9 => ?_) (fun h9 => ?_)
    · skip
      refine z_iconst cx dX0_has_16 ?_
      refine z_zret cx dX0_has_17 ?_
      exact ⟨rfl, by omega⟩
    · skip
      refine z_iconst cx dX0_has_12 ?_
      refine z_goto cx (tgt := 17) dX0_has_13 ?_
      refine z_zret cx dX0_has_17 ?_
      exact ⟨rfl, by omega⟩
set_option maxRecDepth 100000 in
set_option maxHeartbeats 4000000 in
theorem c_X0_endBefore {E : En} {G : Wd} {q : Nat} {F : Fm} {i : Nat} (hq : q < 6) (hF : FilmIs G q F) (hO : FOk F) (hi : i < F.2.2.length) : Cti E yX0_endBefore cX0_endBefore 2 .int 0 0 [.ref (E.1 (14 + q)), .int (iN (i : Int))] G (fun z G' => G' = G ∧ z = if 0 < i then (F.2.2.getD (i - 1) dS).2.1 else 0) := by
  obtain ⟨hR, hV, hcc, hcu, hn, hs⟩ := id hF
  obtain ⟨hOv, hOc, hOs⟩ := id hO
  have hl20 := hOs.1
  have hl12 := hOc.1
  obtain ⟨hv0, hv1, hv2, hv3, hv4, hv5⟩ := id hOv
  have w0 := hV 0 (by omega)
  have w1 := hV 1 (by omega)
  have w2 := hV 2 (by omega)
  have w3 := hV 3 (by omega)
  have w4 := hV 4 (by omega)
  have w5 := hV 5 (by omega)
  refine Cti.mk [some (.ref (E.1 (14 + q))), some (.int (iN (i : Int)))] (by decide) rfl (by intro v hv; simp only [List.mem_cons, List.not_mem_nil, or_false] at hv; rcases hv with rfl | rfl <;> rfl) (Nat.le_of_ble_eq_true rfl) ?_
  intro p l e s m args below meth c cx
  refine z_iload_n cx dX0_endBefore_0 rfl ?_
  refine z_if_le cx (tgt := 18) dX0_endBefore_1 (fun h1 => ?_) (fun h1 => ?_)
  · skip
    refine z_iconst cx dX0_endBefore_18 ?_
    refine z_iret cx dX0_endBefore_19 ?_
    refine ⟨rfl, ?_⟩
    rw [if_neg (by omega)]
  · skip
    have hk := hR.1 (i - 1) (by omega)
    have hs_ := hs (i - 1) (by omega)
    have ho := hOs.2.1 (i - 1) (by omega)
    have e5 := hs_.1
    have e6 := hs_.2.1
    have e7 := hs_.2.2.1
    have o1 := ho.1
    have o2 := ho.2.1
    have o3 := ho.2.2.1
    have o4 := ho.2.2.2.1
    have o5 := ho.2.2.2.2.1
    refine z_aload_n cx dX0_endBefore_4 rfl ?_
    refine g_X0_0 cx (by omega) fl_X0_11 dX0_endBefore_5 ?_
    refine z_iload_n cx dX0_endBefore_8 rfl ?_
    refine z_iconst cx dX0_endBefore_9 ?_
    refine z_isub cx dX0_endBefore_10 ?_
    refine z_aldq cx (i - 1) (by omega) (by omega) (co_rows E _ (by omega)) rfl dX0_endBefore_11 ?_
    refine g_X3_1 cx (by omega) fl_X0_48 dX0_endBefore_12 ?_
    refine z_goto cx (tgt := 19) dX0_endBefore_15 ?_
    refine z_iret cx dX0_endBefore_19 ?_
    refine ⟨rfl, ?_⟩
    rw [if_pos (by omega), e6]
set_option maxRecDepth 100000 in
set_option maxHeartbeats 4000000 in
theorem c_X0_startBehind {E : En} {G : Wd} {q : Nat} {F : Fm} {i : Nat} (hq : q < 6) (hF : FilmIs G q F) (hO : FOk F) (hi : i < F.2.2.length) : Cti E yX0_startBehind cX0_startBehind 2 .int 0 0 [.ref (E.1 (14 + q)), .int (iN (i : Int))] G (fun z G' => G' = G ∧ z = if i + 1 < F.2.2.length then (F.2.2.getD (i + 1) dS).1 else 5000) := by
  obtain ⟨hR, hV, hcc, hcu, hn, hs⟩ := id hF
  obtain ⟨hOv, hOc, hOs⟩ := id hO
  have hl20 := hOs.1
  have hl12 := hOc.1
  obtain ⟨hv0, hv1, hv2, hv3, hv4, hv5⟩ := id hOv
  have w0 := hV 0 (by omega)
  have w1 := hV 1 (by omega)
  have w2 := hV 2 (by omega)
  have w3 := hV 3 (by omega)
  have w4 := hV 4 (by omega)
  have w5 := hV 5 (by omega)
  refine Cti.mk [some (.ref (E.1 (14 + q))), some (.int (iN (i : Int)))] (by decide) rfl (by intro v hv; simp only [List.mem_cons, List.not_mem_nil, or_false] at hv; rcases hv with rfl | rfl <;> rfl) (Nat.le_of_ble_eq_true rfl) ?_
  intro p l e s m args below meth c cx
  refine z_iload_n cx dX0_startBehind_0 rfl ?_
  refine z_aload_n cx dX0_startBehind_1 rfl ?_
  refine g_X0_1 cx (by omega) fl_X0_34 dX0_startBehind_2 ?_
  refine z_iconst cx dX0_startBehind_5 ?_
  refine z_isub cx dX0_startBehind_6 ?_
  refine z_icmp_ge cx (tgt := 24) dX0_startBehind_7 (fun h7 => ?_) (fun h7 => ?_)
  · skip
    refine z_sipush cx dX0_startBehind_24 ?_
    refine z_iret cx dX0_startBehind_27 ?_
    refine ⟨rfl, ?_⟩
    rw [if_neg (by omega)]
  · skip
    have hk := hR.1 (i + 1) (by omega)
    have hs_ := hs (i + 1) (by omega)
    have ho := hOs.2.1 (i + 1) (by omega)
    have e5 := hs_.1
    have e6 := hs_.2.1
    have e7 := hs_.2.2.1
    have o1 := ho.1
    have o2 := ho.2.1
    have o3 := ho.2.2.1
    have o4 := ho.2.2.2.1
    have o5 := ho.2.2.2.2.1
    refine z_aload_n cx dX0_startBehind_10 rfl ?_
    refine g_X0_0 cx (by omega) fl_X0_11 dX0_startBehind_11 ?_
    refine z_iload_n cx dX0_startBehind_14 rfl ?_
    refine z_iconst cx dX0_startBehind_15 ?_
    refine z_iadd cx dX0_startBehind_16 ?_
    refine z_aldq cx (i + 1) (by omega) (by omega) (co_rows E _ (by omega)) rfl dX0_startBehind_17 ?_
    refine g_X3_0 cx (by omega) fl_X0_45 dX0_startBehind_18 ?_
    refine z_goto cx (tgt := 27) dX0_startBehind_21 ?_
    refine z_iret cx dX0_startBehind_27 ?_
    refine ⟨rfl, ?_⟩
    rw [if_pos (by omega), e5]
set_option maxRecDepth 100000 in
set_option maxHeartbeats 4000000 in
theorem c_X0_reasonAgainst {E : En} {G : Wd} {q : Nat} {F : Fm} {a b : Int} (hq : q < 6) (hF : FilmIs G q F) (hO : FOk F) (ha : 0 ≤ a ∧ a ≤ 5000) (hb : 0 ≤ b ∧ b ≤ 5000) : Cti E yX0_reasonAgainst cX0_reasonAgainst 4 .int 0 0 [.ref (E.1 (14 + q)), .int (iN a), .int (iN b)] G (fun z G' => G' = G ∧ z = rsn F a b) := by
  obtain ⟨hR, hV, hcc, hcu, hn, hs⟩ := id hF
  obtain ⟨hOv, hOc, hOs⟩ := id hO
  have hl20 := hOs.1
  have hl12 := hOc.1
  obtain ⟨hv0, hv1, hv2, hv3, hv4, hv5⟩ := id hOv
  have w0 := hV 0 (by omega)
  have w1 := hV 1 (by omega)
  have w2 := hV 2 (by omega)
  have w3 := hV 3 (by omega)
  have w4 := hV 4 (by omega)
  have w5 := hV 5 (by omega)
  refine Cti.mk [some (.ref (E.1 (14 + q))), some (.int (iN a)), some (.int (iN b)), none] (by decide) rfl (by intro v hv; simp only [List.mem_cons, List.not_mem_nil, or_false] at hv; rcases hv with rfl | rfl | rfl <;> rfl) (Nat.le_of_ble_eq_true rfl) ?_
  intro p l e s m args below meth c cx
  have L9 : ∀ (n : Nat) (j : Nat), (60 - j) < n → (j ≤ F.2.2.length) → (a < b) → (∀ i, i < j → ¬ (a < (F.2.2.getD i dS).2.1 ∧ (F.2.2.getD i dS).1 < b)) → Z p l e (zr 0 0) s m args below meth c 4 0 0 E (Qi_ E below args s (fun z G' => G' = G ∧ z = rsn F a b)) G 9 [some (.ref (E.1 (14 + q))), some (.int (iN a)), some (.int (iN b)), some (.int (iN (j : Int)))] [] := by
    intro n
    induction n with
    | zero =>
      intro j hmu
      exact absurd hmu (Nat.not_lt_zero _)
    | succ n ih =>
      intro j hmu hj hi hi2
      refine z_iload_n cx dX0_reasonAgainst_9 rfl ?_
      refine z_aload_n cx dX0_reasonAgainst_10 rfl ?_
      refine g_X0_1 cx (by omega) fl_X0_34 dX0_reasonAgainst_11 ?_
      refine z_icmp_ge cx (tgt := 51) dX0_reasonAgainst_14 (fun h14 => ?_) (fun h14 => ?_)
      · skip
        refine z_aload_n cx dX0_reasonAgainst_51 rfl ?_
        refine g_X0_1 cx (by omega) fl_X0_34 dX0_reasonAgainst_52 ?_
        refine z_bipush cx dX0_reasonAgainst_55 ?_
        refine z_icmp_lt cx (tgt := 64) dX0_reasonAgainst_57 (fun h57 => ?_) (fun h57 => ?_)
        · skip
          refine z_iconst cx dX0_reasonAgainst_64 ?_
          refine z_iret cx dX0_reasonAgainst_65 ?_
          refine ⟨rfl, ?_⟩
          rw [rsn_3 hi (fun i h => hi2 i (by omega))]
          first | (rw [if_pos (by omega)]; done) | (rw [if_neg (by omega)]; done)
        · skip
          refine z_iconst cx dX0_reasonAgainst_60 ?_
          refine z_goto cx (tgt := 65) dX0_reasonAgainst_61 ?_
          refine z_iret cx dX0_reasonAgainst_65 ?_
          refine ⟨rfl, ?_⟩
          rw [rsn_3 hi (fun i h => hi2 i (by omega))]
          first | (rw [if_pos (by omega)]; done) | (rw [if_neg (by omega)]; done)
      · skip
        have hk := hR.1 (j) (by omega)
        have hs_ := hs (j) (by omega)
        have ho := hOs.2.1 (j) (by omega)
        have e5 := hs_.1
        have e6 := hs_.2.1
        have e7 := hs_.2.2.1
        have o1 := ho.1
        have o2 := ho.2.1
        have o3 := ho.2.2.1
        have o4 := ho.2.2.2.1
        have o5 := ho.2.2.2.2.1
        refine z_iload_n cx dX0_reasonAgainst_17 rfl ?_
        refine z_aload_n cx dX0_reasonAgainst_18 rfl ?_
        refine g_X0_0 cx (by omega) fl_X0_11 dX0_reasonAgainst_19 ?_
        refine z_iload_n cx dX0_reasonAgainst_22 rfl ?_
        refine z_aldq cx _ rfl (by omega) (co_rows E _ (by omega)) rfl dX0_reasonAgainst_23 ?_
        refine g_X3_1 cx (by omega) fl_X0_48 dX0_reasonAgainst_24 ?_
        refine z_icmp_ge cx (tgt := 45) dX0_reasonAgainst_27 (fun h27 => ?_) (fun h27 => ?_)
        · skip
          refine z_iinc cx dX0_reasonAgainst_45 rfl ?_
          refine z_goto cx (tgt := 9) dX0_reasonAgainst_48 ?_
          refine Z.locs (ih (j + 1) (by omega) (by omega) hi (fun i h => by rcases Nat.lt_succ_iff_lt_or_eq.mp h with h | rfl; exact hi2 i h; omega)) ⟨rfl, rfl, rfl, rfl, trivial⟩
        · skip
          refine z_aload_n cx dX0_reasonAgainst_30 rfl ?_
          refine g_X0_0 cx (by omega) fl_X0_11 dX0_reasonAgainst_31 ?_
          refine z_iload_n cx dX0_reasonAgainst_34 rfl ?_
          refine z_aldq cx _ rfl (by omega) (co_rows E _ (by omega)) rfl dX0_reasonAgainst_35 ?_
          refine g_X3_0 cx (by omega) fl_X0_45 dX0_reasonAgainst_36 ?_
          refine z_iload_n cx dX0_reasonAgainst_39 rfl ?_
          refine z_icmp_ge cx (tgt := 45) dX0_reasonAgainst_40 (fun h40 => ?_) (fun h40 => ?_)
          · skip
            refine z_iinc cx dX0_reasonAgainst_45 rfl ?_
            refine z_goto cx (tgt := 9) dX0_reasonAgainst_48 ?_
            refine Z.locs (ih (j + 1) (by omega) (by omega) hi (fun i h => by rcases Nat.lt_succ_iff_lt_or_eq.mp h with h | rfl; exact hi2 i h; omega)) ⟨rfl, rfl, rfl, rfl, trivial⟩
          · skip
            refine z_iconst cx dX0_reasonAgainst_43 ?_
            refine z_iret cx dX0_reasonAgainst_44 ?_
            exact ⟨rfl, (rsn_2 hi (i := j) (by omega) (by omega) (by omega)).symm⟩
  refine z_iload_n cx dX0_reasonAgainst_0 rfl ?_
  refine z_iload_n cx dX0_reasonAgainst_1 rfl ?_
  refine z_icmp_lt cx (tgt := 7) dX0_reasonAgainst_2 (fun h2 => ?_) (fun h2 => ?_)
  · skip
    refine z_iconst cx dX0_reasonAgainst_7 ?_
    refine z_istore_n cx dX0_reasonAgainst_8 ?_
    refine Z.locs (L9 _ (0) (Nat.lt_succ_self _) (by omega) (by omega) (fun i h => absurd h (Nat.not_lt_zero _))) ⟨rfl, rfl, rfl, rfl, trivial⟩
  · skip
    refine z_iconst cx dX0_reasonAgainst_5 ?_
    refine z_iret cx dX0_reasonAgainst_6 ?_
    exact ⟨rfl, (rsn_1 (by omega)).symm⟩
set_option maxRecDepth 100000 in
set_option maxHeartbeats 4000000 in
theorem c_X0_framesNeededBy {E : En} {G : Wd} {q : Nat} {F : Fm} (hq : q < 6) (hC : FilmC G q F) (hOv : VlOk F.1) (hOc : CuOk F.2.1) {k : Nat} {S : Sb} (hk : k < 120) (hS : SubIs G k S) (hT : SbOk S) : Cti E yX0_framesNeededBy cX0_framesNeededBy 3 .int 1 21 [.ref (E.1 (14 + q)), .ref (E.1 (38 + k))] G (fun z G' => G' = G ∧ z = need F S) := by
  obtain ⟨hV, hcc, hcu⟩ := id hC
  have hl12 := hOc.1
  obtain ⟨hv0, hv1, hv2, hv3, hv4, hv5⟩ := id hOv
  have w0 := hV 0 (by omega)
  have w1 := hV 1 (by omega)
  have w2 := hV 2 (by omega)
  have w3 := hV 3 (by omega)
  have w4 := hV 4 (by omega)
  have w5 := hV 5 (by omega)
  have e5 := hS.1
  have e6 := hS.2.1
  have e7 := hS.2.2.1
  have o1 := hT.1
  have o2 := hT.2.1
  have o3 := hT.2.2.1
  have o4 := hT.2.2.2.1
  have o5 := hT.2.2.2.2.1
  refine Cti.mk [some (.ref (E.1 (14 + q))), some (.ref (E.1 (38 + k))), none] (by decide) rfl (by intro v hv; simp only [List.mem_cons, List.not_mem_nil, or_false] at hv; rcases hv with rfl | rfl <;> rfl) (Nat.le_of_ble_eq_true rfl) ?_
  intro p l e s m args below meth c cx
  refine z_aload_n cx dX0_framesNeededBy_0 rfl ?_
  refine g_X0_4 cx (by omega) fl_X0_22 dX0_framesNeededBy_1 ?_
  refine z_iconst cx dX0_framesNeededBy_4 ?_
  refine z_iald cx 0 rfl (by omega) (co_vals E _ (by omega)) dX0_framesNeededBy_5 ?_
  refine z_istore_n cx dX0_framesNeededBy_6 ?_
  refine z_aload_n cx dX0_framesNeededBy_7 rfl ?_
  refine g_X0_4 cx (by omega) fl_X0_22 dX0_framesNeededBy_8 ?_
  refine z_iconst cx dX0_framesNeededBy_11 ?_
  refine z_iald cx 2 rfl (by omega) (co_vals E _ (by omega)) dX0_framesNeededBy_12 ?_
  refine z_bipush cx dX0_framesNeededBy_13 ?_
  refine z_aload_n cx dX0_framesNeededBy_15 rfl ?_
  refine g_X3_2 cx (by omega) fl_X0_59 dX0_framesNeededBy_16 ?_
  refine z_imul cx dX0_framesNeededBy_19 ?_
  refine z_iload_n cx dX0_framesNeededBy_20 rfl ?_
  refine z_iadd cx dX0_framesNeededBy_21 ?_
  refine z_iconst cx dX0_framesNeededBy_22 ?_
  refine z_isub cx dX0_framesNeededBy_23 ?_
  refine z_iload_n cx dX0_framesNeededBy_24 rfl ?_
  refine z_si cx (c_X0_quotient (by omega) (by omega)) rfl ms_X0_quotient ml_X0_70 dX0_framesNeededBy_25 (fun z25 G25 hz25 => ?_)
  obtain ⟨eG, rfl⟩ := hz25
  have eG := eG.symm
  subst eG
  have hdv : 0 ≤ (25 * G 7 k 0 + G 3 q 0 - 1) / G 3 q 0 := Int.ediv_nonneg (by omega) (by omega)
  have hdv2 : (25 * G 7 k 0 + G 3 q 0 - 1) / G 3 q 0 ≤ 25 * G 7 k 0 + G 3 q 0 - 1 := Int.ediv_le_self _ (by omega)
  refine z_max cx ml_X0_79 dX0_framesNeededBy_28 ?_
  refine z_iret cx dX0_framesNeededBy_31 ?_
  refine ⟨rfl, ?_⟩
  unfold need
  rw [w2, w0, e7]
set_option maxRecDepth 100000 in
set_option maxHeartbeats 4000000 in
theorem c_X0_nearestCutTo {E : En} {G : Wd} {q : Nat} {F : Fm} {x : Int} (hq : q < 6) (hC : FilmC G q F) (hOv : VlOk F.1) (hOc : CuOk F.2.1) (hx : 0 ≤ x ∧ x ≤ 5000) : Cti E yX0_nearestCutTo cX0_nearestCutTo 4 .int 1 21 [.ref (E.1 (14 + q)), .int (iN x)] G (fun z G' => G' = G ∧ z = ncut F.2.1 x) := by
  obtain ⟨hV, hcc, hcu⟩ := id hC
  have hl12 := hOc.1
  obtain ⟨hv0, hv1, hv2, hv3, hv4, hv5⟩ := id hOv
  have w0 := hV 0 (by omega)
  have w1 := hV 1 (by omega)
  have w2 := hV 2 (by omega)
  have w3 := hV 3 (by omega)
  have w4 := hV 4 (by omega)
  have w5 := hV 5 (by omega)
  refine Cti.mk [some (.ref (E.1 (14 + q))), some (.int (iN x)), none, none] (by decide) rfl (by intro v hv; simp only [List.mem_cons, List.not_mem_nil, or_false] at hv; rcases hv with rfl | rfl <;> rfl) (Nat.le_of_ble_eq_true rfl) ?_
  intro p l e s m args below meth c cx
  have L5 : ∀ (n : Nat) (j : Nat) (nr : Int), (60 - j) < n → (j ≤ F.2.1.length) → (NCp F.2.1 x j nr) → Z p l e (zr 1 21) s m args below meth c 4 0 0 E (Qi_ E below args s (fun z G' => G' = G ∧ z = ncut F.2.1 x)) G 5 [some (.ref (E.1 (14 + q))), some (.int (iN x)), some (.int (iN nr)), some (.int (iN (j : Int)))] [] := by
    intro n
    induction n with
    | zero =>
      intro j nr hmu
      exact absurd hmu (Nat.not_lt_zero _)
    | succ n ih =>
      intro j nr hmu hj hN
      have hnr : (j = 0 ∧ nr = -6) ∨ (0 < j ∧ 1 ≤ nr ∧ nr ≤ 4999) := by
        rcases hN with q1 | ⟨i, q1, q2, -⟩
        · exact Or.inl q1
        · have := hOc.2.1 i (by omega)
          exact Or.inr ⟨by omega, by omega⟩
      refine z_iload_n cx dX0_nearestCutTo_5 rfl ?_
      refine z_aload_n cx dX0_nearestCutTo_6 rfl ?_
      refine g_X0_3 cx (by omega) fl_X0_42 dX0_nearestCutTo_7 ?_
      refine z_icmp_ge cx (tgt := 52) dX0_nearestCutTo_10 (fun h10 => ?_) (fun h10 => ?_)
      · skip
        refine z_iload_n cx dX0_nearestCutTo_52 rfl ?_
        refine z_iret cx dX0_nearestCutTo_53 ?_
        refine ⟨rfl, ?_⟩
        have hjl : j = F.2.1.length := by omega
        subst hjl
        exact hN.end_.symm
      · skip
        have ec := hcu j (by omega)
        have hcj := hOc.2.1 j (by omega)
        refine z_iload_n cx dX0_nearestCutTo_13 rfl ?_
        refine z_bipush cx dX0_nearestCutTo_14 ?_
        refine z_icmp_eq cx (tgt := 39) dX0_nearestCutTo_16 (fun h16 => ?_) (fun h16 => ?_)
        · skip
          refine z_aload_n cx dX0_nearestCutTo_39 rfl ?_
          refine g_X0_2 cx (by omega) fl_X0_18 dX0_nearestCutTo_40 ?_
          refine z_iload_n cx dX0_nearestCutTo_43 rfl ?_
          refine z_iald cx _ rfl (by omega) (co_cuts E _ (by omega)) dX0_nearestCutTo_44 ?_
          refine z_istore_n cx dX0_nearestCutTo_45 ?_
          refine z_iinc cx dX0_nearestCutTo_46 rfl ?_
          refine z_goto cx (tgt := 5) dX0_nearestCutTo_49 ?_
          refine Z.locs (ih (j + 1) _ (by omega) (by omega) (by first | exact hN.keep (by omega) (by omega) | (rw [ec]; exact hN.new (by omega)))) ⟨rfl, rfl, rfl, rfl, trivial⟩
        · skip
          refine z_aload_n cx dX0_nearestCutTo_19 rfl ?_
          refine g_X0_2 cx (by omega) fl_X0_18 dX0_nearestCutTo_20 ?_
          refine z_iload_n cx dX0_nearestCutTo_23 rfl ?_
          refine z_iald cx _ rfl (by omega) (co_cuts E _ (by omega)) dX0_nearestCutTo_24 ?_
          refine z_iload_n cx dX0_nearestCutTo_25 rfl ?_
          refine z_isub cx dX0_nearestCutTo_26 ?_
          refine z_abs cx ml_X0_97 dX0_nearestCutTo_27 ?_
          refine z_iload_n cx dX0_nearestCutTo_30 rfl ?_
          refine z_iload_n cx dX0_nearestCutTo_31 rfl ?_
          refine z_isub cx dX0_nearestCutTo_32 ?_
          refine z_abs cx ml_X0_97 dX0_nearestCutTo_33 ?_
          refine z_icmp_ge cx (tgt := 46) dX0_nearestCutTo_36 (fun h36 => ?_) (fun h36 => ?_)
          · skip
            refine z_iinc cx dX0_nearestCutTo_46 rfl ?_
            refine z_goto cx (tgt := 5) dX0_nearestCutTo_49 ?_
            refine Z.locs (ih (j + 1) _ (by omega) (by omega) (by first | exact hN.keep (by omega) (by omega) | (rw [ec]; exact hN.new (by omega)))) ⟨rfl, rfl, rfl, rfl, trivial⟩
          · skip
            refine z_aload_n cx dX0_nearestCutTo_39 rfl ?_
            refine g_X0_2 cx (by omega) fl_X0_18 dX0_nearestCutTo_40 ?_
            refine z_iload_n cx dX0_nearestCutTo_43 rfl ?_
            refine z_iald cx _ rfl (by omega) (co_cuts E _ (by omega)) dX0_nearestCutTo_44 ?_
            refine z_istore_n cx dX0_nearestCutTo_45 ?_
            refine z_iinc cx dX0_nearestCutTo_46 rfl ?_
            refine z_goto cx (tgt := 5) dX0_nearestCutTo_49 ?_
            refine Z.locs (ih (j + 1) _ (by omega) (by omega) (by first | exact hN.keep (by omega) (by omega) | (rw [ec]; exact hN.new (by omega)))) ⟨rfl, rfl, rfl, rfl, trivial⟩
  refine z_bipush cx dX0_nearestCutTo_0 ?_
  refine z_istore_n cx dX0_nearestCutTo_2 ?_
  refine z_iconst cx dX0_nearestCutTo_3 ?_
  refine z_istore_n cx dX0_nearestCutTo_4 ?_
  refine Z.locs (L5 _ (0) (-6) (Nat.lt_succ_self _) (by omega) (Or.inl ⟨rfl, rfl⟩)) ⟨rfl, rfl, rfl, rfl, trivial⟩
set_option maxRecDepth 100000 in
set_option maxHeartbeats 4000000 in
theorem c_X0_hasCutNearItsTimes {E : En} {G : Wd} {q : Nat} {F : Fm} (hq : q < 6) (hC : FilmC G q F) (hOv : VlOk F.1) (hOc : CuOk F.2.1) {k : Nat} {S : Sb} (hk : k < 120) (hS : SubIs G k S) (hT : SbOk S) : Cti E yX0_hasCutNearItsTimes cX0_hasCutNearItsTimes 5 .boolean 0 0 [.ref (E.1 (14 + q)), .ref (E.1 (38 + k))] G (fun z G' => G' = G ∧ (z = 1 ∧ nearC F S ∨ z = 0 ∧ ¬ nearC F S)) := by
  obtain ⟨hV, hcc, hcu⟩ := id hC
  have hl12 := hOc.1
  obtain ⟨hv0, hv1, hv2, hv3, hv4, hv5⟩ := id hOv
  have w0 := hV 0 (by omega)
  have w1 := hV 1 (by omega)
  have w2 := hV 2 (by omega)
  have w3 := hV 3 (by omega)
  have w4 := hV 4 (by omega)
  have w5 := hV 5 (by omega)
  have e5 := hS.1
  have e6 := hS.2.1
  have e7 := hS.2.2.1
  have o1 := hT.1
  have o2 := hT.2.1
  have o3 := hT.2.2.1
  have o4 := hT.2.2.2.1
  have o5 := hT.2.2.2.2.1
  refine Cti.mk [some (.ref (E.1 (14 + q))), some (.ref (E.1 (38 + k))), none, none, none] (by decide) rfl (by intro v hv; simp only [List.mem_cons, List.not_mem_nil, or_false] at hv; rcases hv with rfl | rfl <;> rfl) (Nat.le_of_ble_eq_true rfl) ?_
  intro p l e s m args below meth c cx
  have L2 : ∀ (n : Nat) (j : Nat), (60 - j) < n → (j ≤ F.2.1.length) → (∀ i, i < j → ¬ (F.2.1.getD i 0 - S.1 > 0 ∧ S.2.1 - F.2.1.getD i 0 > 0 ∧ (F.2.1.getD i 0 - S.1 < F.1 5 ∨ S.2.1 - F.2.1.getD i 0 < F.1 5))) → Z p l e (zr 0 0) s m args below meth c 5 0 0 E (Qi_ E below args s (fun z G' => G' = G ∧ (z = 1 ∧ nearC F S ∨ z = 0 ∧ ¬ nearC F S))) G 2 [some (.ref (E.1 (14 + q))), some (.ref (E.1 (38 + k))), some (.int (iN (j : Int))), none, none] [] := by
    intro n
    induction n with
    | zero =>
      intro j hmu
      exact absurd hmu (Nat.not_lt_zero _)
    | succ n ih =>
      intro j hmu hj hN
      refine z_iload_n cx dX0_hasCutNearItsTimes_2 rfl ?_
      refine z_aload_n cx dX0_hasCutNearItsTimes_3 rfl ?_
      refine g_X0_3 cx (by omega) fl_X0_42 dX0_hasCutNearItsTimes_4 ?_
      refine z_icmp_ge cx (tgt := 73) dX0_hasCutNearItsTimes_7 (fun h7 => ?_) (fun h7 => ?_)
      · skip
        refine z_iconst cx dX0_hasCutNearItsTimes_73 ?_
        refine z_zret cx dX0_hasCutNearItsTimes_74 ?_
        exact ⟨rfl, Or.inr ⟨rfl, by rintro ⟨i, g1, g2⟩; exact hN i (by omega) g2⟩⟩
      · skip
        have ec := hcu j (by omega)
        have hcj := hOc.2.1 j (by omega)
        refine z_aload_n cx dX0_hasCutNearItsTimes_10 rfl ?_
        refine g_X0_2 cx (by omega) fl_X0_18 dX0_hasCutNearItsTimes_11 ?_
        refine z_iload_n cx dX0_hasCutNearItsTimes_14 rfl ?_
        refine z_iald cx _ rfl (by omega) (co_cuts E _ (by omega)) dX0_hasCutNearItsTimes_15 ?_
        refine z_aload_n cx dX0_hasCutNearItsTimes_16 rfl ?_
        refine g_X3_0 cx (by omega) fl_X0_45 dX0_hasCutNearItsTimes_17 ?_
        refine z_isub cx dX0_hasCutNearItsTimes_20 ?_
        refine z_istore_n cx dX0_hasCutNearItsTimes_21 ?_
        refine z_aload_n cx dX0_hasCutNearItsTimes_22 rfl ?_
        refine g_X3_1 cx (by omega) fl_X0_48 dX0_hasCutNearItsTimes_23 ?_
        refine z_aload_n cx dX0_hasCutNearItsTimes_26 rfl ?_
        refine g_X0_2 cx (by omega) fl_X0_18 dX0_hasCutNearItsTimes_27 ?_
        refine z_iload_n cx dX0_hasCutNearItsTimes_30 rfl ?_
        refine z_iald cx _ rfl (by omega) (co_cuts E _ (by omega)) dX0_hasCutNearItsTimes_31 ?_
        refine z_isub cx dX0_hasCutNearItsTimes_32 ?_
        refine z_istore cx dX0_hasCutNearItsTimes_33 ?_
        refine z_iload_n cx dX0_hasCutNearItsTimes_35 rfl ?_
        refine z_if_le cx (tgt := 67) dX0_hasCutNearItsTimes_36 (fun h36 => ?_) (fun h36 => ?_)
        · skip
          refine z_iinc cx dX0_hasCutNearItsTimes_67 rfl ?_
          refine z_goto cx (tgt := 2) dX0_hasCutNearItsTimes_70 ?_
          refine Z.locs (ih (j + 1) (by omega) (by omega) (fun i h => by rcases Nat.lt_succ_iff_lt_or_eq.mp h with h | rfl; exact hN i h; omega)) ⟨rfl, rfl, rfl, trivial⟩
        · skip
          refine z_iload cx dX0_hasCutNearItsTimes_39 rfl ?_
          refine z_if_le cx (tgt := 67) dX0_hasCutNearItsTimes_41 (fun h41 => ?_) (fun h41 => ?_)
          · skip
            refine z_iinc cx dX0_hasCutNearItsTimes_67 rfl ?_
            refine z_goto cx (tgt := 2) dX0_hasCutNearItsTimes_70 ?_
            refine Z.locs (ih (j + 1) (by omega) (by omega) (fun i h => by rcases Nat.lt_succ_iff_lt_or_eq.mp h with h | rfl; exact hN i h; omega)) ⟨rfl, rfl, rfl, trivial⟩
          · skip
            refine z_iload_n cx dX0_hasCutNearItsTimes_44 rfl ?_
            refine z_aload_n cx dX0_hasCutNearItsTimes_45 rfl ?_
            refine g_X0_4 cx (by omega) fl_X0_22 dX0_hasCutNearItsTimes_46 ?_
            refine z_iconst cx dX0_hasCutNearItsTimes_49 ?_
            refine z_iald cx 5 rfl (by omega) (co_vals E _ (by omega)) dX0_hasCutNearItsTimes_50 ?_
            refine z_icmp_lt cx (tgt := 65) dX0_hasCutNearItsTimes_51 (fun h51 => ?_) (fun h51 => ?_)
            · skip
              refine z_iconst cx dX0_hasCutNearItsTimes_65 ?_
              refine z_zret cx dX0_hasCutNearItsTimes_66 ?_
              exact ⟨rfl, Or.inl ⟨rfl, j, by omega, by omega, by omega, by omega⟩⟩
            · skip
              refine z_iload cx dX0_hasCutNearItsTimes_54 rfl ?_
              refine z_aload_n cx dX0_hasCutNearItsTimes_56 rfl ?_
              refine g_X0_4 cx (by omega) fl_X0_22 dX0_hasCutNearItsTimes_57 ?_
              refine z_iconst cx dX0_hasCutNearItsTimes_60 ?_
              refine z_iald cx 5 rfl (by omega) (co_vals E _ (by omega)) dX0_hasCutNearItsTimes_61 ?_
              refine z_icmp_ge cx (tgt := 67) dX0_hasCutNearItsTimes_62 (fun h62 => ?_) (fun h62 => ?_)
              · skip
                refine z_iinc cx dX0_hasCutNearItsTimes_67 rfl ?_
                refine z_goto cx (tgt := 2) dX0_hasCutNearItsTimes_70 ?_
                refine Z.locs (ih (j + 1) (by omega) (by omega) (fun i h => by rcases Nat.lt_succ_iff_lt_or_eq.mp h with h | rfl; exact hN i h; omega)) ⟨rfl, rfl, rfl, trivial⟩
              · skip
                refine z_iconst cx dX0_hasCutNearItsTimes_65 ?_
                refine z_zret cx dX0_hasCutNearItsTimes_66 ?_
                exact ⟨rfl, Or.inl ⟨rfl, j, by omega, by omega, by omega, by omega⟩⟩
  refine z_iconst cx dX0_hasCutNearItsTimes_0 ?_
  refine z_istore_n cx dX0_hasCutNearItsTimes_1 ?_
  refine Z.locs (L2 _ (0) (Nat.lt_succ_self _) (by omega) (fun i h => absurd h (Nat.not_lt_zero _))) ⟨rfl, rfl, rfl, trivial⟩
set_option maxRecDepth 100000 in
set_option maxHeartbeats 4000000 in
theorem c_X0_faultsOf {E : En} {G : Wd} {q : Nat} {F : Fm} {i : Nat} (hq : q < 6) (hF : FilmIs G q F) (hO : FOk F) (hi : i < F.2.2.length) : Cti E yX0_faultsOf cX0_faultsOf 4 .int 3 72 [.ref (E.1 (14 + q)), .int (iN (i : Int))] G (fun z G' => G' = G ∧ z = flt F i) := by
  obtain ⟨hR, hV, hcc, hcu, hn, hs⟩ := id hF
  obtain ⟨hOv, hOc, hOs⟩ := id hO
  have hl20 := hOs.1
  have hl12 := hOc.1
  obtain ⟨hv0, hv1, hv2, hv3, hv4, hv5⟩ := id hOv
  have w0 := hV 0 (by omega)
  have w1 := hV 1 (by omega)
  have w2 := hV 2 (by omega)
  have w3 := hV 3 (by omega)
  have w4 := hV 4 (by omega)
  have w5 := hV 5 (by omega)
  have hk := hR.1 (i) (by omega)
  have hs_ := hs (i) (by omega)
  have ho := hOs.2.1 (i) (by omega)
  have e5 := hs_.1
  have e6 := hs_.2.1
  have e7 := hs_.2.2.1
  have o1 := ho.1
  have o2 := ho.2.1
  have o3 := ho.2.2.1
  have o4 := ho.2.2.2.1
  have o5 := ho.2.2.2.2.1
  have fb := fun (p : Prop) (v : Int) (h : 0 ≤ v) => bit_b (p := p) (v := v) h
  have fb1 := fb (fast (F.2.2.getD i dS) (F.1 0)) 1 (by omega)
  have fb2 := fb ((F.2.2.getD i dS).2.1 - (F.2.2.getD i dS).1 < F.1 2) 2 (by omega)
  have fb3 := fb ((F.2.2.getD i dS).2.1 - (F.2.2.getD i dS).1 > F.1 3) 4 (by omega)
  have fb4 := fb (i + 1 < F.2.2.length ∧ (F.2.2.getD (i + 1) dS).1 - (F.2.2.getD i dS).2.1 < F.1 1) 8 (by omega)
  have fb5 := fb (nearC F (F.2.2.getD i dS)) 16 (by omega)
  have fb6 := fb (wide (F.1 4) (F.2.2.getD i dS).2.2) 32 (by omega)
  refine Cti.mk [some (.ref (E.1 (14 + q))), some (.int (iN (i : Int))), none, none] (by decide) rfl (by intro v hv; simp only [List.mem_cons, List.not_mem_nil, or_false] at hv; rcases hv with rfl | rfl <;> rfl) (Nat.le_of_ble_eq_true rfl) ?_
  intro p l e s m args below meth c cx
  have L122 : ∀ (v : Int), (v = bit (fast (F.2.2.getD i dS) (F.1 0)) 1 + bit ((F.2.2.getD i dS).2.1 - (F.2.2.getD i dS).1 < F.1 2) 2 + bit ((F.2.2.getD i dS).2.1 - (F.2.2.getD i dS).1 > F.1 3) 4 + bit (i + 1 < F.2.2.length ∧ (F.2.2.getD (i + 1) dS).1 - (F.2.2.getD i dS).2.1 < F.1 1) 8 + bit (nearC F (F.2.2.getD i dS)) 16 + bit (wide (F.1 4) (F.2.2.getD i dS).2.2) 32) → Z p l e (zr 3 72) s m args below meth c 4 0 0 E (Qi_ E below args s (fun z G' => G' = G ∧ z = flt F i)) G 122 [some (.ref (E.1 (14 + q))), some (.int (iN (i : Int))), some (.ref (E.1 (38 + (G 4 q i).toNat))), some (.int (iN v))] [] := by
    intro v hv
    refine z_iload_n cx dX0_faultsOf_122 rfl ?_
    refine z_iret cx dX0_faultsOf_123 ?_
    exact ⟨rfl, hv⟩
  have L106 : ∀ (v : Int), (v = bit (fast (F.2.2.getD i dS) (F.1 0)) 1 + bit ((F.2.2.getD i dS).2.1 - (F.2.2.getD i dS).1 < F.1 2) 2 + bit ((F.2.2.getD i dS).2.1 - (F.2.2.getD i dS).1 > F.1 3) 4 + bit (i + 1 < F.2.2.length ∧ (F.2.2.getD (i + 1) dS).1 - (F.2.2.getD i dS).2.1 < F.1 1) 8 + bit (nearC F (F.2.2.getD i dS)) 16) → Z p l e (zr 3 72) s m args below meth c 4 0 0 E (Qi_ E below args s (fun z G' => G' = G ∧ z = flt F i)) G 106 [some (.ref (E.1 (14 + q))), some (.int (iN (i : Int))), some (.ref (E.1 (38 + (G 4 q i).toNat))), some (.int (iN v))] [] := by
    intro v hv
    refine z_aload_n cx dX0_faultsOf_106 rfl ?_
    refine z_aload_n cx dX0_faultsOf_107 rfl ?_
    refine g_X0_4 cx (by omega) fl_X0_22 dX0_faultsOf_108 ?_
    refine z_iconst cx dX0_faultsOf_111 ?_
    refine z_iald cx 4 rfl (by omega) (co_vals E _ (by omega)) dX0_faultsOf_112 ?_
    refine z_vi cx (c_X3_fitsInLines (by omega) hs_ ho.2.2.2 (by omega)) rfl mv_X3_fitsInLines ml_X0_108 (by omega) (co_sub E _ (by omega)) rfl dX0_faultsOf_113 (fun z113 G113 hz113 => ?_)
    obtain ⟨eG, hz113⟩ := hz113
    have eG := eG.symm
    subst eG
    rw [w4] at hz113
    refine z_if_ne cx (tgt := 122) dX0_faultsOf_116 (fun h116 => ?_) (fun h116 => ?_)
    · skip
      refine Z.locs (L122 _ (by first | (rw [bit_t (p := wide (F.1 4) (F.2.2.getD i dS).2.2) (by rcases hz113 with ⟨g1, g2⟩ | ⟨g1, g2⟩ <;> first | exact g2 | exact (fun w => g2 w) | (exfalso; omega))] <;> omega) | (rw [bit_f (p := wide (F.1 4) (F.2.2.getD i dS).2.2) (by rcases hz113 with ⟨g1, g2⟩ | ⟨g1, g2⟩ <;> first | exact g2 | exact (fun w => g2 w) | (exfalso; omega))] <;> omega))) ⟨rfl, rfl, rfl, rfl, trivial⟩
    · skip
      refine z_iinc cx dX0_faultsOf_119 rfl ?_
      refine Z.locs (L122 _ (by first | (rw [bit_t (p := wide (F.1 4) (F.2.2.getD i dS).2.2) (by rcases hz113 with ⟨g1, g2⟩ | ⟨g1, g2⟩ <;> first | exact g2 | exact (fun w => g2 w) | (exfalso; omega))] <;> omega) | (rw [bit_f (p := wide (F.1 4) (F.2.2.getD i dS).2.2) (by rcases hz113 with ⟨g1, g2⟩ | ⟨g1, g2⟩ <;> first | exact g2 | exact (fun w => g2 w) | (exfalso; omega))] <;> omega))) ⟨rfl, rfl, rfl, rfl, trivial⟩
  have L95 : ∀ (v : Int), (v = bit (fast (F.2.2.getD i dS) (F.1 0)) 1 + bit ((F.2.2.getD i dS).2.1 - (F.2.2.getD i dS).1 < F.1 2) 2 + bit ((F.2.2.getD i dS).2.1 - (F.2.2.getD i dS).1 > F.1 3) 4 + bit (i + 1 < F.2.2.length ∧ (F.2.2.getD (i + 1) dS).1 - (F.2.2.getD i dS).2.1 < F.1 1) 8) → Z p l e (zr 3 72) s m args below meth c 4 0 0 E (Qi_ E below args s (fun z G' => G' = G ∧ z = flt F i)) G 95 [some (.ref (E.1 (14 + q))), some (.int (iN (i : Int))), some (.ref (E.1 (38 + (G 4 q i).toNat))), some (.int (iN v))] [] := by
    intro v hv
    refine z_aload_n cx dX0_faultsOf_95 rfl ?_
    refine z_aload_n cx dX0_faultsOf_96 rfl ?_
    refine z_vi cx (c_X0_hasCutNearItsTimes hq hF.C hO.1 hO.2.1 (by omega) hs_ ho) rfl mv_X0_hasCutNearItsTimes ml_X0_104 (by omega) (co_film E _ (by omega)) rfl dX0_faultsOf_97 (fun z97 G97 hz97 => ?_)
    obtain ⟨eG, hz97⟩ := hz97
    have eG := eG.symm
    subst eG
    refine z_if_eq cx (tgt := 106) dX0_faultsOf_100 (fun h100 => ?_) (fun h100 => ?_)
    · skip
      refine Z.locs (L106 _ (by first | (rw [bit_t (p := nearC F (F.2.2.getD i dS)) (by rcases hz97 with ⟨g1, g2⟩ | ⟨g1, g2⟩ <;> first | exact g2 | exact (fun w => g2 w) | (exfalso; omega))] <;> omega) | (rw [bit_f (p := nearC F (F.2.2.getD i dS)) (by rcases hz97 with ⟨g1, g2⟩ | ⟨g1, g2⟩ <;> first | exact g2 | exact (fun w => g2 w) | (exfalso; omega))] <;> omega))) ⟨rfl, rfl, rfl, rfl, trivial⟩
    · skip
      refine z_iinc cx dX0_faultsOf_103 rfl ?_
      refine Z.locs (L106 _ (by first | (rw [bit_t (p := nearC F (F.2.2.getD i dS)) (by rcases hz97 with ⟨g1, g2⟩ | ⟨g1, g2⟩ <;> first | exact g2 | exact (fun w => g2 w) | (exfalso; omega))] <;> omega) | (rw [bit_f (p := nearC F (F.2.2.getD i dS)) (by rcases hz97 with ⟨g1, g2⟩ | ⟨g1, g2⟩ <;> first | exact g2 | exact (fun w => g2 w) | (exfalso; omega))] <;> omega))) ⟨rfl, rfl, rfl, rfl, trivial⟩
  have L57 : ∀ (v : Int), (v = bit (fast (F.2.2.getD i dS) (F.1 0)) 1 + bit ((F.2.2.getD i dS).2.1 - (F.2.2.getD i dS).1 < F.1 2) 2 + bit ((F.2.2.getD i dS).2.1 - (F.2.2.getD i dS).1 > F.1 3) 4) → Z p l e (zr 3 72) s m args below meth c 4 0 0 E (Qi_ E below args s (fun z G' => G' = G ∧ z = flt F i)) G 57 [some (.ref (E.1 (14 + q))), some (.int (iN (i : Int))), some (.ref (E.1 (38 + (G 4 q i).toNat))), some (.int (iN v))] [] := by
    intro v hv
    refine z_iload_n cx dX0_faultsOf_57 rfl ?_
    refine z_aload_n cx dX0_faultsOf_58 rfl ?_
    refine g_X0_1 cx (by omega) fl_X0_34 dX0_faultsOf_59 ?_
    refine z_iconst cx dX0_faultsOf_62 ?_
    refine z_isub cx dX0_faultsOf_63 ?_
    refine z_icmp_ge cx (tgt := 95) dX0_faultsOf_64 (fun h64 => ?_) (fun h64 => ?_)
    · skip
      refine Z.locs (L95 _ (by first | (rw [bit_t (p := i + 1 < F.2.2.length ∧ (F.2.2.getD (i + 1) dS).1 - (F.2.2.getD i dS).2.1 < F.1 1) (by omega)] <;> omega) | (rw [bit_f (p := i + 1 < F.2.2.length ∧ (F.2.2.getD (i + 1) dS).1 - (F.2.2.getD i dS).2.1 < F.1 1) (by omega)] <;> omega))) ⟨rfl, rfl, rfl, rfl, trivial⟩
    · skip
      have hkn := hR.1 (i + 1) (by omega)
      have hsn_ := hs (i + 1) (by omega)
      have hon := hOs.2.1 (i + 1) (by omega)
      have e5n := hsn_.1
      have e6n := hsn_.2.1
      have e7n := hsn_.2.2.1
      have o1n := hon.1
      have o2n := hon.2.1
      have o3n := hon.2.2.1
      have o4n := hon.2.2.2.1
      have o5n := hon.2.2.2.2.1
      refine z_aload_n cx dX0_faultsOf_67 rfl ?_
      refine g_X0_0 cx (by omega) fl_X0_11 dX0_faultsOf_68 ?_
      refine z_iload_n cx dX0_faultsOf_71 rfl ?_
      refine z_iconst cx dX0_faultsOf_72 ?_
      refine z_iadd cx dX0_faultsOf_73 ?_
      refine z_aldq cx (i + 1) (by omega) (by omega) (co_rows E _ (by omega)) rfl dX0_faultsOf_74 ?_
      refine g_X3_0 cx (by omega) fl_X0_45 dX0_faultsOf_75 ?_
      refine z_aload_n cx dX0_faultsOf_78 rfl ?_
      refine g_X3_1 cx (by omega) fl_X0_48 dX0_faultsOf_79 ?_
      refine z_isub cx dX0_faultsOf_82 ?_
      refine z_aload_n cx dX0_faultsOf_83 rfl ?_
      refine g_X0_4 cx (by omega) fl_X0_22 dX0_faultsOf_84 ?_
      refine z_iconst cx dX0_faultsOf_87 ?_
      refine z_iald cx 1 rfl (by omega) (co_vals E _ (by omega)) dX0_faultsOf_88 ?_
      refine z_icmp_ge cx (tgt := 95) dX0_faultsOf_89 (fun h89 => ?_) (fun h89 => ?_)
      · skip
        refine Z.locs (L95 _ (by first | (rw [bit_t (p := i + 1 < F.2.2.length ∧ (F.2.2.getD (i + 1) dS).1 - (F.2.2.getD i dS).2.1 < F.1 1) (by omega)] <;> omega) | (rw [bit_f (p := i + 1 < F.2.2.length ∧ (F.2.2.getD (i + 1) dS).1 - (F.2.2.getD i dS).2.1 < F.1 1) (by omega)] <;> omega))) ⟨rfl, rfl, rfl, rfl, trivial⟩
      · skip
        refine z_iinc cx dX0_faultsOf_92 rfl ?_
        refine Z.locs (L95 _ (by first | (rw [bit_t (p := i + 1 < F.2.2.length ∧ (F.2.2.getD (i + 1) dS).1 - (F.2.2.getD i dS).2.1 < F.1 1) (by omega)] <;> omega) | (rw [bit_f (p := i + 1 < F.2.2.length ∧ (F.2.2.getD (i + 1) dS).1 - (F.2.2.getD i dS).2.1 < F.1 1) (by omega)] <;> omega))) ⟨rfl, rfl, rfl, rfl, trivial⟩
  have L41 : ∀ (v : Int), (v = bit (fast (F.2.2.getD i dS) (F.1 0)) 1 + bit ((F.2.2.getD i dS).2.1 - (F.2.2.getD i dS).1 < F.1 2) 2) → Z p l e (zr 3 72) s m args below meth c 4 0 0 E (Qi_ E below args s (fun z G' => G' = G ∧ z = flt F i)) G 41 [some (.ref (E.1 (14 + q))), some (.int (iN (i : Int))), some (.ref (E.1 (38 + (G 4 q i).toNat))), some (.int (iN v))] [] := by
    intro v hv
    refine z_aload_n cx dX0_faultsOf_41 rfl ?_
    refine z_vi cx (c_X3_frames (by omega)) rfl mv_X3_frames ml_X0_66 (by omega) (co_sub E _ (by omega)) rfl dX0_faultsOf_42 (fun z42 G42 hz42 => ?_)
    obtain ⟨eG, rfl⟩ := hz42
    have eG := eG.symm
    subst eG
    refine z_aload_n cx dX0_faultsOf_45 rfl ?_
    refine g_X0_4 cx (by omega) fl_X0_22 dX0_faultsOf_46 ?_
    refine z_iconst cx dX0_faultsOf_49 ?_
    refine z_iald cx 3 rfl (by omega) (co_vals E _ (by omega)) dX0_faultsOf_50 ?_
    refine z_icmp_le cx (tgt := 57) dX0_faultsOf_51 (fun h51 => ?_) (fun h51 => ?_)
    · skip
      refine Z.locs (L57 _ (by first | (rw [bit_t (p := (F.2.2.getD i dS).2.1 - (F.2.2.getD i dS).1 > F.1 3) (by omega)] <;> omega) | (rw [bit_f (p := (F.2.2.getD i dS).2.1 - (F.2.2.getD i dS).1 > F.1 3) (by omega)] <;> omega))) ⟨rfl, rfl, rfl, rfl, trivial⟩
    · skip
      refine z_iinc cx dX0_faultsOf_54 rfl ?_
      refine Z.locs (L57 _ (by first | (rw [bit_t (p := (F.2.2.getD i dS).2.1 - (F.2.2.getD i dS).1 > F.1 3) (by omega)] <;> omega) | (rw [bit_f (p := (F.2.2.getD i dS).2.1 - (F.2.2.getD i dS).1 > F.1 3) (by omega)] <;> omega))) ⟨rfl, rfl, rfl, rfl, trivial⟩
  have L25 : ∀ (v : Int), (v = bit (fast (F.2.2.getD i dS) (F.1 0)) 1) → Z p l e (zr 3 72) s m args below meth c 4 0 0 E (Qi_ E below args s (fun z G' => G' = G ∧ z = flt F i)) G 25 [some (.ref (E.1 (14 + q))), some (.int (iN (i : Int))), some (.ref (E.1 (38 + (G 4 q i).toNat))), some (.int (iN v))] [] := by
    intro v hv
    refine z_aload_n cx dX0_faultsOf_25 rfl ?_
    refine z_vi cx (c_X3_frames (by omega)) rfl mv_X3_frames ml_X0_66 (by omega) (co_sub E _ (by omega)) rfl dX0_faultsOf_26 (fun z26 G26 hz26 => ?_)
    obtain ⟨eG, rfl⟩ := hz26
    have eG := eG.symm
    subst eG
    refine z_aload_n cx dX0_faultsOf_29 rfl ?_
    refine g_X0_4 cx (by omega) fl_X0_22 dX0_faultsOf_30 ?_
    refine z_iconst cx dX0_faultsOf_33 ?_
    refine z_iald cx 2 rfl (by omega) (co_vals E _ (by omega)) dX0_faultsOf_34 ?_
    refine z_icmp_ge cx (tgt := 41) dX0_faultsOf_35 (fun h35 => ?_) (fun h35 => ?_)
    · skip
      refine Z.locs (L41 _ (by first | (rw [bit_t (p := (F.2.2.getD i dS).2.1 - (F.2.2.getD i dS).1 < F.1 2) (by omega)] <;> omega) | (rw [bit_f (p := (F.2.2.getD i dS).2.1 - (F.2.2.getD i dS).1 < F.1 2) (by omega)] <;> omega))) ⟨rfl, rfl, rfl, rfl, trivial⟩
    · skip
      refine z_iinc cx dX0_faultsOf_38 rfl ?_
      refine Z.locs (L41 _ (by first | (rw [bit_t (p := (F.2.2.getD i dS).2.1 - (F.2.2.getD i dS).1 < F.1 2) (by omega)] <;> omega) | (rw [bit_f (p := (F.2.2.getD i dS).2.1 - (F.2.2.getD i dS).1 < F.1 2) (by omega)] <;> omega))) ⟨rfl, rfl, rfl, rfl, trivial⟩
  refine z_aload_n cx dX0_faultsOf_0 rfl ?_
  refine g_X0_0 cx (by omega) fl_X0_11 dX0_faultsOf_1 ?_
  refine z_iload_n cx dX0_faultsOf_4 rfl ?_
  refine z_aldq cx _ rfl (by omega) (co_rows E _ (by omega)) rfl dX0_faultsOf_5 ?_
  refine z_astore_n cx dX0_faultsOf_6 ?_
  refine z_iconst cx dX0_faultsOf_7 ?_
  refine z_istore_n cx dX0_faultsOf_8 ?_
  refine z_aload_n cx dX0_faultsOf_9 rfl ?_
  refine z_aload_n cx dX0_faultsOf_10 rfl ?_
  refine g_X0_4 cx (by omega) fl_X0_22 dX0_faultsOf_11 ?_
  refine z_iconst cx dX0_faultsOf_14 ?_
  refine z_iald cx 0 rfl (by omega) (co_vals E _ (by omega)) dX0_faultsOf_15 ?_
  refine z_vi cx (c_X3_isTooFastFor (by omega) hs_ ho (by omega)) rfl mv_X3_isTooFastFor ml_X0_100 (by omega) (co_sub E _ (by omega)) rfl dX0_faultsOf_16 (fun z16 G16 hz16 => ?_)
  obtain ⟨eG, hz16⟩ := hz16
  have eG := eG.symm
  subst eG
  rw [w0] at hz16
  refine z_if_eq cx (tgt := 25) dX0_faultsOf_19 (fun h19 => ?_) (fun h19 => ?_)
  · skip
    refine Z.locs (L25 _ (by first | (rw [bit_t (p := fast (F.2.2.getD i dS) (F.1 0)) (by rcases hz16 with ⟨g1, g2⟩ | ⟨g1, g2⟩ <;> first | exact g2 | exact (fun w => g2 w) | (exfalso; omega))] <;> omega) | (rw [bit_f (p := fast (F.2.2.getD i dS) (F.1 0)) (by rcases hz16 with ⟨g1, g2⟩ | ⟨g1, g2⟩ <;> first | exact g2 | exact (fun w => g2 w) | (exfalso; omega))] <;> omega))) ⟨rfl, rfl, rfl, rfl, trivial⟩
  · skip
    refine z_iinc cx dX0_faultsOf_22 rfl ?_
    refine Z.locs (L25 _ (by first | (rw [bit_t (p := fast (F.2.2.getD i dS) (F.1 0)) (by rcases hz16 with ⟨g1, g2⟩ | ⟨g1, g2⟩ <;> first | exact g2 | exact (fun w => g2 w) | (exfalso; omega))] <;> omega) | (rw [bit_f (p := fast (F.2.2.getD i dS) (F.1 0)) (by rcases hz16 with ⟨g1, g2⟩ | ⟨g1, g2⟩ <;> first | exact g2 | exact (fun w => g2 w) | (exfalso; omega))] <;> omega))) ⟨rfl, rfl, rfl, rfl, trivial⟩
set_option maxRecDepth 100000 in
set_option maxHeartbeats 4000000 in
theorem c_X0_countFaulty {E : En} {G : Wd} {q : Nat} {F : Fm} {x : Int} (hq : q < 6) (hF : FilmIs G q F) (hO : FOk F) (hx : 0 ≤ x ∧ x ≤ 63) : Cti E yX0_countFaulty cX0_countFaulty 4 .int 4 95 [.ref (E.1 (14 + q)), .int (iN x)] G (fun z G' => G' = G ∧ z = cnt (fun i => flH x (flt F i)) F.2.2.length) := by
  obtain ⟨hR, hV, hcc, hcu, hn, hs⟩ := id hF
  obtain ⟨hOv, hOc, hOs⟩ := id hO
  have hl20 := hOs.1
  have hl12 := hOc.1
  obtain ⟨hv0, hv1, hv2, hv3, hv4, hv5⟩ := id hOv
  have w0 := hV 0 (by omega)
  have w1 := hV 1 (by omega)
  have w2 := hV 2 (by omega)
  have w3 := hV 3 (by omega)
  have w4 := hV 4 (by omega)
  have w5 := hV 5 (by omega)
  refine Cti.mk [some (.ref (E.1 (14 + q))), some (.int (iN x)), none, none] (by decide) rfl (by intro v hv; simp only [List.mem_cons, List.not_mem_nil, or_false] at hv; rcases hv with rfl | rfl <;> rfl) (Nat.le_of_ble_eq_true rfl) ?_
  intro p l e s m args below meth c cx
  have L4 : ∀ (n : Nat) (j : Nat), (60 - j) < n → (j ≤ F.2.2.length) → Z p l e (zr 4 95) s m args below meth c 4 0 0 E (Qi_ E below args s (fun z G' => G' = G ∧ z = cnt (fun i => flH x (flt F i)) F.2.2.length)) G 4 [some (.ref (E.1 (14 + q))), some (.int (iN x)), some (.int (iN (cnt (fun i => flH x (flt F i)) j))), some (.int (iN (j : Int)))] [] := by
    intro n
    induction n with
    | zero =>
      intro j hmu
      exact absurd hmu (Nat.not_lt_zero _)
    | succ n ih =>
      intro j hmu hj
      refine z_iload_n cx dX0_countFaulty_4 rfl ?_
      refine z_aload_n cx dX0_countFaulty_5 rfl ?_
      refine g_X0_1 cx (by omega) fl_X0_34 dX0_countFaulty_6 ?_
      refine z_icmp_ge cx (tgt := 31) dX0_countFaulty_9 (fun h9 => ?_) (fun h9 => ?_)
      · skip
        refine z_iload_n cx dX0_countFaulty_31 rfl ?_
        refine z_iret cx dX0_countFaulty_32 ?_
        refine ⟨rfl, ?_⟩
        rw [show j = F.2.2.length by omega]
      · skip
        have hcb := cnt_b (fun i => flH x (flt F i)) j
        have hfb := flt_b F j
        refine z_aload_n cx dX0_countFaulty_12 rfl ?_
        refine z_iload_n cx dX0_countFaulty_13 rfl ?_
        refine z_vi cx (c_X0_faultsOf hq hF hO (i := j) (by omega)) rfl mv_X0_faultsOf ml_X0_111 (by omega) (co_film E _ (by omega)) rfl dX0_countFaulty_14 (fun z14 G14 hz14 => ?_)
        obtain ⟨eG, rfl⟩ := hz14
        have eG := eG.symm
        subst eG
        refine z_iload_n cx dX0_countFaulty_17 rfl ?_
        refine z_iand cx dX0_countFaulty_18 ?_
        have hand := Nat.and_le_left (n := (flt F j).toNat) (m := x.toNat)
        refine z_if_eq cx (tgt := 25) dX0_countFaulty_19 (fun h19 => ?_) (fun h19 => ?_)
        · skip
          first
          | (have hst : cnt (fun i => flH x (flt F i)) (j + 1) = cnt (fun i => flH x (flt F i)) j + 1 := cnt_t (show flH x (flt F j) from fun g => h19 (by rw [g]; rfl)); rw [← hst])
          | (have hst : cnt (fun i => flH x (flt F i)) (j + 1) = cnt (fun i => flH x (flt F i)) j := cnt_f (show ¬ flH x (flt F j) from fun g => g (by omega)); rw [← hst])
          refine z_iinc cx dX0_countFaulty_25 rfl ?_
          refine z_goto cx (tgt := 4) dX0_countFaulty_28 ?_
          refine Z.locs (ih (j + 1) (by omega) (by omega)) ⟨rfl, rfl, rfl, rfl, trivial⟩
        · skip
          refine z_iinc cx dX0_countFaulty_22 rfl ?_
          first
          | (have hst : cnt (fun i => flH x (flt F i)) (j + 1) = cnt (fun i => flH x (flt F i)) j + 1 := cnt_t (show flH x (flt F j) from fun g => h19 (by rw [g]; rfl)); rw [← hst])
          | (have hst : cnt (fun i => flH x (flt F i)) (j + 1) = cnt (fun i => flH x (flt F i)) j := cnt_f (show ¬ flH x (flt F j) from fun g => g (by omega)); rw [← hst])
          refine z_iinc cx dX0_countFaulty_25 rfl ?_
          refine z_goto cx (tgt := 4) dX0_countFaulty_28 ?_
          refine Z.locs (ih (j + 1) (by omega) (by omega)) ⟨rfl, rfl, rfl, rfl, trivial⟩
  refine z_iconst cx dX0_countFaulty_0 ?_
  refine z_istore_n cx dX0_countFaulty_1 ?_
  refine z_iconst cx dX0_countFaulty_2 ?_
  refine z_istore_n cx dX0_countFaulty_3 ?_
  refine Z.locs (L4 _ (0) (Nat.lt_succ_self _) (by omega)) ⟨rfl, rfl, rfl, rfl, trivial⟩
set_option maxRecDepth 100000 in
set_option maxHeartbeats 4000000 in
theorem c_X0_countTooFastFor {E : En} {G : Wd} {q : Nat} {F : Fm} {x : Int} (hq : q < 6) (hF : FilmIs G q F) (hO : FOk F) (hx : 0 ≤ x ∧ x ≤ 100) : Cti E yX0_countTooFastFor cX0_countTooFastFor 4 .int 2 41 [.ref (E.1 (14 + q)), .int (iN x)] G (fun z G' => G' = G ∧ z = cnt (fun i => fast (F.2.2.getD i dS) x) F.2.2.length) := by
  obtain ⟨hR, hV, hcc, hcu, hn, hs⟩ := id hF
  obtain ⟨hOv, hOc, hOs⟩ := id hO
  have hl20 := hOs.1
  have hl12 := hOc.1
  obtain ⟨hv0, hv1, hv2, hv3, hv4, hv5⟩ := id hOv
  have w0 := hV 0 (by omega)
  have w1 := hV 1 (by omega)
  have w2 := hV 2 (by omega)
  have w3 := hV 3 (by omega)
  have w4 := hV 4 (by omega)
  have w5 := hV 5 (by omega)
  refine Cti.mk [some (.ref (E.1 (14 + q))), some (.int (iN x)), none, none] (by decide) rfl (by intro v hv; simp only [List.mem_cons, List.not_mem_nil, or_false] at hv; rcases hv with rfl | rfl <;> rfl) (Nat.le_of_ble_eq_true rfl) ?_
  intro p l e s m args below meth c cx
  have L4 : ∀ (n : Nat) (j : Nat), (60 - j) < n → (j ≤ F.2.2.length) → Z p l e (zr 2 41) s m args below meth c 4 0 0 E (Qi_ E below args s (fun z G' => G' = G ∧ z = cnt (fun i => fast (F.2.2.getD i dS) x) F.2.2.length)) G 4 [some (.ref (E.1 (14 + q))), some (.int (iN x)), some (.int (iN (cnt (fun i => fast (F.2.2.getD i dS) x) j))), some (.int (iN (j : Int)))] [] := by
    intro n
    induction n with
    | zero =>
      intro j hmu
      exact absurd hmu (Nat.not_lt_zero _)
    | succ n ih =>
      intro j hmu hj
      refine z_iload_n cx dX0_countTooFastFor_4 rfl ?_
      refine z_aload_n cx dX0_countTooFastFor_5 rfl ?_
      refine g_X0_1 cx (by omega) fl_X0_34 dX0_countTooFastFor_6 ?_
      refine z_icmp_ge cx (tgt := 34) dX0_countTooFastFor_9 (fun h9 => ?_) (fun h9 => ?_)
      · skip
        refine z_iload_n cx dX0_countTooFastFor_34 rfl ?_
        refine z_iret cx dX0_countTooFastFor_35 ?_
        refine ⟨rfl, ?_⟩
        rw [show j = F.2.2.length by omega]
      · skip
        have hk := hR.1 (j) (by omega)
        have hs_ := hs (j) (by omega)
        have ho := hOs.2.1 (j) (by omega)
        have e5 := hs_.1
        have e6 := hs_.2.1
        have e7 := hs_.2.2.1
        have o1 := ho.1
        have o2 := ho.2.1
        have o3 := ho.2.2.1
        have o4 := ho.2.2.2.1
        have o5 := ho.2.2.2.2.1
        have hcb := cnt_b (fun i => fast (F.2.2.getD i dS) x) j
        refine z_aload_n cx dX0_countTooFastFor_12 rfl ?_
        refine g_X0_0 cx (by omega) fl_X0_11 dX0_countTooFastFor_13 ?_
        refine z_iload_n cx dX0_countTooFastFor_16 rfl ?_
        refine z_aldq cx _ rfl (by omega) (co_rows E _ (by omega)) rfl dX0_countTooFastFor_17 ?_
        refine z_iload_n cx dX0_countTooFastFor_18 rfl ?_
        refine z_vi cx (c_X3_isTooFastFor (by omega) hs_ ho (by omega)) rfl mv_X3_isTooFastFor ml_X0_100 (by omega) (co_sub E _ (by omega)) rfl dX0_countTooFastFor_19 (fun z19 G19 hz19 => ?_)
        obtain ⟨eG, hz19⟩ := hz19
        have eG := eG.symm
        subst eG
        refine z_if_eq cx (tgt := 28) dX0_countTooFastFor_22 (fun h22 => ?_) (fun h22 => ?_)
        · skip
          first
          | (have hst : cnt (fun i => fast (F.2.2.getD i dS) x) (j + 1) = cnt (fun i => fast (F.2.2.getD i dS) x) j + 1 := cnt_t (by rcases hz19 with ⟨g1, g2⟩ | ⟨g1, g2⟩ <;> first | exact g2 | exact (fun w => g2 w) | (exfalso; omega)); rw [← hst])
          | (have hst : cnt (fun i => fast (F.2.2.getD i dS) x) (j + 1) = cnt (fun i => fast (F.2.2.getD i dS) x) j := cnt_f (by rcases hz19 with ⟨g1, g2⟩ | ⟨g1, g2⟩ <;> first | exact g2 | exact (fun w => g2 w) | (exfalso; omega)); rw [← hst])
          refine z_iinc cx dX0_countTooFastFor_28 rfl ?_
          refine z_goto cx (tgt := 4) dX0_countTooFastFor_31 ?_
          refine Z.locs (ih (j + 1) (by omega) (by omega)) ⟨rfl, rfl, rfl, rfl, trivial⟩
        · skip
          refine z_iinc cx dX0_countTooFastFor_25 rfl ?_
          first
          | (have hst : cnt (fun i => fast (F.2.2.getD i dS) x) (j + 1) = cnt (fun i => fast (F.2.2.getD i dS) x) j + 1 := cnt_t (by rcases hz19 with ⟨g1, g2⟩ | ⟨g1, g2⟩ <;> first | exact g2 | exact (fun w => g2 w) | (exfalso; omega)); rw [← hst])
          | (have hst : cnt (fun i => fast (F.2.2.getD i dS) x) (j + 1) = cnt (fun i => fast (F.2.2.getD i dS) x) j := cnt_f (by rcases hz19 with ⟨g1, g2⟩ | ⟨g1, g2⟩ <;> first | exact g2 | exact (fun w => g2 w) | (exfalso; omega)); rw [← hst])
          refine z_iinc cx dX0_countTooFastFor_28 rfl ?_
          refine z_goto cx (tgt := 4) dX0_countTooFastFor_31 ?_
          refine Z.locs (ih (j + 1) (by omega) (by omega)) ⟨rfl, rfl, rfl, rfl, trivial⟩
  refine z_iconst cx dX0_countTooFastFor_0 ?_
  refine z_istore_n cx dX0_countTooFastFor_1 ?_
  refine z_iconst cx dX0_countTooFastFor_2 ?_
  refine z_istore_n cx dX0_countTooFastFor_3 ?_
  refine Z.locs (L4 _ (0) (Nat.lt_succ_self _) (by omega)) ⟨rfl, rfl, rfl, rfl, trivial⟩
set_option maxRecDepth 100000 in
set_option maxHeartbeats 4000000 in
theorem c_X0_framesOfAll {E : En} {G : Wd} {q : Nat} {F : Fm} (hq : q < 6) (hF : FilmIs G q F) (hO : FOk F) : Cti E yX0_framesOfAll cX0_framesOfAll 3 .int 1 20 [.ref (E.1 (14 + q))] G (fun z G' => G' = G ∧ z = sumN (fun i => (F.2.2.getD i dS).2.1 - (F.2.2.getD i dS).1) F.2.2.length) := by
  obtain ⟨hR, hV, hcc, hcu, hn, hs⟩ := id hF
  obtain ⟨hOv, hOc, hOs⟩ := id hO
  have hl20 := hOs.1
  have hl12 := hOc.1
  obtain ⟨hv0, hv1, hv2, hv3, hv4, hv5⟩ := id hOv
  have w0 := hV 0 (by omega)
  have w1 := hV 1 (by omega)
  have w2 := hV 2 (by omega)
  have w3 := hV 3 (by omega)
  have w4 := hV 4 (by omega)
  have w5 := hV 5 (by omega)
  refine Cti.mk [some (.ref (E.1 (14 + q))), none, none] (by decide) rfl (by intro v hv; simp only [List.mem_cons, List.not_mem_nil, or_false] at hv; subst hv; rfl) (Nat.le_of_ble_eq_true rfl) ?_
  intro p l e s m args below meth c cx
  have L4 : ∀ (n : Nat) (j : Nat), (60 - j) < n → (j ≤ F.2.2.length) → Z p l e (zr 1 20) s m args below meth c 3 0 0 E (Qi_ E below args s (fun z G' => G' = G ∧ z = sumN (fun i => (F.2.2.getD i dS).2.1 - (F.2.2.getD i dS).1) F.2.2.length)) G 4 [some (.ref (E.1 (14 + q))), some (.int (iN (sumN (fun i => (F.2.2.getD i dS).2.1 - (F.2.2.getD i dS).1) j))), some (.int (iN (j : Int)))] [] := by
    intro n
    induction n with
    | zero =>
      intro j hmu
      exact absurd hmu (Nat.not_lt_zero _)
    | succ n ih =>
      intro j hmu hj
      refine z_iload_n cx dX0_framesOfAll_4 rfl ?_
      refine z_aload_n cx dX0_framesOfAll_5 rfl ?_
      refine g_X0_1 cx (by omega) fl_X0_34 dX0_framesOfAll_6 ?_
      refine z_icmp_ge cx (tgt := 30) dX0_framesOfAll_9 (fun h9 => ?_) (fun h9 => ?_)
      · skip
        refine z_iload_n cx dX0_framesOfAll_30 rfl ?_
        refine z_iret cx dX0_framesOfAll_31 ?_
        refine ⟨rfl, ?_⟩
        rw [show j = F.2.2.length by omega]
      · skip
        have hk := hR.1 (j) (by omega)
        have hs_ := hs (j) (by omega)
        have ho := hOs.2.1 (j) (by omega)
        have e5 := hs_.1
        have e6 := hs_.2.1
        have e7 := hs_.2.2.1
        have o1 := ho.1
        have o2 := ho.2.1
        have o3 := ho.2.2.1
        have o4 := ho.2.2.2.1
        have o5 := ho.2.2.2.2.1
        refine z_iload_n cx dX0_framesOfAll_12 rfl ?_
        refine z_aload_n cx dX0_framesOfAll_13 rfl ?_
        refine g_X0_0 cx (by omega) fl_X0_11 dX0_framesOfAll_14 ?_
        refine z_iload_n cx dX0_framesOfAll_17 rfl ?_
        refine z_aldq cx _ rfl (by omega) (co_rows E _ (by omega)) rfl dX0_framesOfAll_18 ?_
        refine z_vi cx (c_X3_frames (by omega)) rfl mv_X3_frames ml_X0_66 (by omega) (co_sub E _ (by omega)) rfl dX0_framesOfAll_19 (fun z19 G19 hz19 => ?_)
        obtain ⟨eG, rfl⟩ := hz19
        have eG := eG.symm
        subst eG
        rw [e5, e6]
        refine z_iadd cx dX0_framesOfAll_22 ?_
        refine z_istore_n cx dX0_framesOfAll_23 ?_
        refine z_iinc cx dX0_framesOfAll_24 rfl ?_
        refine z_goto cx (tgt := 4) dX0_framesOfAll_27 ?_
        refine Z.locs (ih (j + 1) (by omega) (by omega)) ⟨rfl, rfl, rfl, trivial⟩
  refine z_iconst cx dX0_framesOfAll_0 ?_
  refine z_istore_n cx dX0_framesOfAll_1 ?_
  refine z_iconst cx dX0_framesOfAll_2 ?_
  refine z_istore_n cx dX0_framesOfAll_3 ?_
  refine Z.locs (L4 _ (0) (Nat.lt_succ_self _) (by omega)) ⟨rfl, rfl, rfl, trivial⟩
set_option maxRecDepth 100000 in
set_option maxHeartbeats 4000000 in
theorem c_X0_lengthOfAll {E : En} {G : Wd} {q : Nat} {F : Fm} (hq : q < 6) (hF : FilmIs G q F) (hO : FOk F) : Cti E yX0_lengthOfAll cX0_lengthOfAll 3 .int 0 0 [.ref (E.1 (14 + q))] G (fun z G' => G' = G ∧ z = sumN (fun i => ((F.2.2.getD i dS).2.2.length : Int)) F.2.2.length) := by
  obtain ⟨hR, hV, hcc, hcu, hn, hs⟩ := id hF
  obtain ⟨hOv, hOc, hOs⟩ := id hO
  have hl20 := hOs.1
  have hl12 := hOc.1
  obtain ⟨hv0, hv1, hv2, hv3, hv4, hv5⟩ := id hOv
  have w0 := hV 0 (by omega)
  have w1 := hV 1 (by omega)
  have w2 := hV 2 (by omega)
  have w3 := hV 3 (by omega)
  have w4 := hV 4 (by omega)
  have w5 := hV 5 (by omega)
  refine Cti.mk [some (.ref (E.1 (14 + q))), none, none] (by decide) rfl (by intro v hv; simp only [List.mem_cons, List.not_mem_nil, or_false] at hv; subst hv; rfl) (Nat.le_of_ble_eq_true rfl) ?_
  intro p l e s m args below meth c cx
  have L4 : ∀ (n : Nat) (j : Nat), (60 - j) < n → (j ≤ F.2.2.length) → Z p l e (zr 0 0) s m args below meth c 3 0 0 E (Qi_ E below args s (fun z G' => G' = G ∧ z = sumN (fun i => ((F.2.2.getD i dS).2.2.length : Int)) F.2.2.length)) G 4 [some (.ref (E.1 (14 + q))), some (.int (iN (sumN (fun i => ((F.2.2.getD i dS).2.2.length : Int)) j))), some (.int (iN (j : Int)))] [] := by
    intro n
    induction n with
    | zero =>
      intro j hmu
      exact absurd hmu (Nat.not_lt_zero _)
    | succ n ih =>
      intro j hmu hj
      refine z_iload_n cx dX0_lengthOfAll_4 rfl ?_
      refine z_aload_n cx dX0_lengthOfAll_5 rfl ?_
      refine g_X0_1 cx (by omega) fl_X0_34 dX0_lengthOfAll_6 ?_
      refine z_icmp_ge cx (tgt := 30) dX0_lengthOfAll_9 (fun h9 => ?_) (fun h9 => ?_)
      · skip
        refine z_iload_n cx dX0_lengthOfAll_30 rfl ?_
        refine z_iret cx dX0_lengthOfAll_31 ?_
        refine ⟨rfl, ?_⟩
        rw [show j = F.2.2.length by omega]
      · skip
        have hk := hR.1 (j) (by omega)
        have hs_ := hs (j) (by omega)
        have ho := hOs.2.1 (j) (by omega)
        have e5 := hs_.1
        have e6 := hs_.2.1
        have e7 := hs_.2.2.1
        have o1 := ho.1
        have o2 := ho.2.1
        have o3 := ho.2.2.1
        have o4 := ho.2.2.2.1
        have o5 := ho.2.2.2.2.1
        refine z_iload_n cx dX0_lengthOfAll_12 rfl ?_
        refine z_aload_n cx dX0_lengthOfAll_13 rfl ?_
        refine g_X0_0 cx (by omega) fl_X0_11 dX0_lengthOfAll_14 ?_
        refine z_iload_n cx dX0_lengthOfAll_17 rfl ?_
        refine z_aldq cx _ rfl (by omega) (co_rows E _ (by omega)) rfl dX0_lengthOfAll_18 ?_
        refine g_X3_2 cx (by omega) fl_X0_59 dX0_lengthOfAll_19 ?_
        rw [e7]
        refine z_iadd cx dX0_lengthOfAll_22 ?_
        refine z_istore_n cx dX0_lengthOfAll_23 ?_
        refine z_iinc cx dX0_lengthOfAll_24 rfl ?_
        refine z_goto cx (tgt := 4) dX0_lengthOfAll_27 ?_
        refine Z.locs (ih (j + 1) (by omega) (by omega)) ⟨rfl, rfl, rfl, trivial⟩
  refine z_iconst cx dX0_lengthOfAll_0 ?_
  refine z_istore_n cx dX0_lengthOfAll_1 ?_
  refine z_iconst cx dX0_lengthOfAll_2 ?_
  refine z_istore_n cx dX0_lengthOfAll_3 ?_
  refine Z.locs (L4 _ (0) (Nat.lt_succ_self _) (by omega)) ⟨rfl, rfl, rfl, trivial⟩
set_option maxRecDepth 100000 in
set_option maxHeartbeats 4000000 in
theorem c_X0_findCut {E : En} {G : Wd} {q : Nat} {F : Fm} {x : Int} (hq : q < 6) (hF : FilmIs G q F) (hO : FOk F) (hx : -2147483648 ≤ x ∧ x < 2147483648) : Cti E yX0_findCut cX0_findCut 3 .int 0 0 [.ref (E.1 (14 + q)), .int (iN x)] G (fun z G' => G' = G ∧ (z = -6 ∧ (∀ i, i < F.2.1.length → F.2.1.getD i 0 ≠ x) ∨ ∃ i : Nat, z = i ∧ i < F.2.1.length ∧ F.2.1.getD i 0 = x)) := by
  obtain ⟨hR, hV, hcc, hcu, hn, hs⟩ := id hF
  obtain ⟨hOv, hOc, hOs⟩ := id hO
  have hl20 := hOs.1
  have hl12 := hOc.1
  obtain ⟨hv0, hv1, hv2, hv3, hv4, hv5⟩ := id hOv
  have w0 := hV 0 (by omega)
  have w1 := hV 1 (by omega)
  have w2 := hV 2 (by omega)
  have w3 := hV 3 (by omega)
  have w4 := hV 4 (by omega)
  have w5 := hV 5 (by omega)
  refine Cti.mk [some (.ref (E.1 (14 + q))), some (.int (iN x)), none] (by decide) rfl (by intro v hv; simp only [List.mem_cons, List.not_mem_nil, or_false] at hv; rcases hv with rfl | rfl <;> rfl) (Nat.le_of_ble_eq_true rfl) ?_
  intro p l e s m args below meth c cx
  have L2 : ∀ (n : Nat) (j : Nat), (60 - j) < n → (j ≤ F.2.1.length) → (∀ j2 : Nat, j2 < j → F.2.1.getD j2 0 ≠ x) → Z p l e (zr 0 0) s m args below meth c 3 0 0 E (Qi_ E below args s (fun z G' => G' = G ∧ (z = -6 ∧ (∀ i, i < F.2.1.length → F.2.1.getD i 0 ≠ x) ∨ ∃ i : Nat, z = i ∧ i < F.2.1.length ∧ F.2.1.getD i 0 = x))) G 2 [some (.ref (E.1 (14 + q))), some (.int (iN x)), some (.int (iN (j : Int)))] [] := by
    intro n
    induction n with
    | zero =>
      intro j hmu
      exact absurd hmu (Nat.not_lt_zero _)
    | succ n ih =>
      intro j hmu hi hn
      refine z_iload_n cx dX0_findCut_2 rfl ?_
      refine z_aload_n cx dX0_findCut_3 rfl ?_
      refine g_X0_3 cx (by omega) fl_X0_42 dX0_findCut_4 ?_
      refine z_icmp_ge cx (tgt := 28) dX0_findCut_7 (fun h7 => ?_) (fun h7 => ?_)
      · skip
        refine z_bipush cx dX0_findCut_28 ?_
        refine z_iret cx dX0_findCut_30 ?_
        exact ⟨rfl, Or.inl ⟨rfl, fun j2 h => hn j2 (by omega)⟩⟩
      · skip
        have ec := hcu j (by omega)
        have hcj := hOc.2.1 j (by omega)
        refine z_aload_n cx dX0_findCut_10 rfl ?_
        refine g_X0_2 cx (by omega) fl_X0_18 dX0_findCut_11 ?_
        refine z_iload_n cx dX0_findCut_14 rfl ?_
        refine z_iald cx _ rfl (by omega) (co_cuts E _ (by omega)) dX0_findCut_15 ?_
        refine z_iload_n cx dX0_findCut_16 rfl ?_
        refine z_icmp_ne cx (tgt := 22) dX0_findCut_17 (fun h17 => ?_) (fun h17 => ?_)
        · skip
          refine z_iinc cx dX0_findCut_22 rfl ?_
          refine z_goto cx (tgt := 2) dX0_findCut_25 ?_
          refine Z.locs (ih (j + 1) (by omega) (by omega) (fun j2 h => by rcases Nat.lt_succ_iff_lt_or_eq.mp h with h | rfl; exact hn j2 h; omega)) ⟨rfl, rfl, rfl, trivial⟩
        · skip
          refine z_iload_n cx dX0_findCut_20 rfl ?_
          refine z_iret cx dX0_findCut_21 ?_
          exact ⟨rfl, Or.inr ⟨j, rfl, by omega, by omega⟩⟩
  refine z_iconst cx dX0_findCut_0 ?_
  refine z_istore_n cx dX0_findCut_1 ?_
  refine Z.locs (L2 _ (0) (Nat.lt_succ_self _) (by omega) (fun j2 h => absurd h (Nat.not_lt_zero _))) ⟨rfl, rfl, rfl, trivial⟩
