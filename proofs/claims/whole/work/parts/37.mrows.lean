/-! ===== the model: rows ===== -/
set_option maxRecDepth 100000 in
set_option maxHeartbeats 4000000 in
theorem c_X5_in {E : En} {G : Wd} {x a b : Int} (h : -2147483648 ≤ x ∧ x < 2147483648 ∧ -2147483648 ≤ a ∧ a < 2147483648 ∧ -2147483648 ≤ b ∧ b < 2147483648) : Cti E yX5_in cX5_in 3 .boolean 0 0 [.int (iN (x)), .int (iN (a)), .int (iN (b))] G (fun z G' => G' = G ∧ (z = 1 ∧ a ≤ x ∧ x ≤ b ∨ z = 0 ∧ ¬ (a ≤ x ∧ x ≤ b))) := by
  refine Cti.mk [some (.int (iN (x))), some (.int (iN (a))), some (.int (iN (b)))] (by decide) rfl (by intro v hv; simp only [List.mem_cons, List.not_mem_nil, or_false] at hv; rcases hv with rfl | rfl | rfl <;> rfl) (Nat.le_of_ble_eq_true rfl) ?_
  intro p l e s m args below meth c cx
  refine z_iload_n cx dX5_in_0 rfl ?_
  refine z_iload_n cx dX5_in_1 rfl ?_
  refine z_icmp_lt cx (tgt := 14) dX5_in_2 (fun h2 => ?_) (fun h2 => ?_)
  · skip
    refine z_iconst cx dX5_in_14 ?_
    refine z_zret cx dX5_in_15 ?_
    exact ⟨rfl, by omega⟩
  · skip
    refine z_iload_n cx dX5_in_5 rfl ?_
    refine z_iload_n cx dX5_in_6 rfl ?_
    refine z_icmp_gt cx (tgt := 14) dX5_in_7 (fun h7 => ?_) (fun h7 => ?_)
    · skip
      refine z_iconst cx dX5_in_14 ?_
      refine z_zret cx dX5_in_15 ?_
      exact ⟨rfl, by omega⟩
    · skip
      refine z_iconst cx dX5_in_10 ?_
      refine z_goto cx (tgt := 15) dX5_in_11 ?_
      refine z_zret cx dX5_in_15 ?_
      exact ⟨rfl, by omega⟩
set_option maxRecDepth 100000 in
set_option maxHeartbeats 4000000 in
theorem c_X5_of {E : En} {G : Wd} {x w : Int} (j : Nat) (hj : 20 + 43 * x + w = (j : Int)) (hl : j < 880) : Cti E yX5_of cX5_of 3 .int 0 0 [.ref (E.1 6), .int (iN (x)), .int (iN (w))] G (fun z G' => G' = G ∧ z = G 20 0 j) := by
  refine Cti.mk [some (.ref (E.1 6)), some (.int (iN (x))), some (.int (iN (w)))] (by decide) rfl (by intro v hv; simp only [List.mem_cons, List.not_mem_nil, or_false] at hv; rcases hv with rfl | rfl | rfl <;> rfl) (Nat.le_of_ble_eq_true rfl) ?_
  intro p l e s m args below meth c cx
  refine z_aload_n cx dX5_of_0 rfl ?_
  refine g_X5_0 cx fl_X5_7 dX5_of_1 ?_
  refine z_bipush cx dX5_of_4 ?_
  refine z_bipush cx dX5_of_6 ?_
  refine z_iload_n cx dX5_of_8 rfl ?_
  refine z_imul cx dX5_of_9 ?_
  refine z_iadd cx dX5_of_10 ?_
  refine z_iload_n cx dX5_of_11 rfl ?_
  refine z_iadd cx dX5_of_12 ?_
  refine z_iald cx (j) (by omega) (by omega) (co_s E _) dX5_of_13 ?_
  refine z_iret cx dX5_of_14 ?_
  exact ⟨rfl, rfl⟩
set_option maxRecDepth 100000 in
set_option maxHeartbeats 4000000 in
theorem c_X5_its {E : En} {G : Wd} {x : Int} (j : Nat) (hj : 1 + x = (j : Int)) (hl : j < 880) : Cti E yX5_its cX5_its 2 .int 0 0 [.ref (E.1 6), .int (iN (x))] G (fun z G' => G' = G ∧ z = G 20 0 j) := by
  refine Cti.mk [some (.ref (E.1 6)), some (.int (iN (x)))] (by decide) rfl (by intro v hv; simp only [List.mem_cons, List.not_mem_nil, or_false] at hv; rcases hv with rfl | rfl <;> rfl) (Nat.le_of_ble_eq_true rfl) ?_
  intro p l e s m args below meth c cx
  refine z_aload_n cx dX5_its_0 rfl ?_
  refine g_X5_0 cx fl_X5_7 dX5_its_1 ?_
  refine z_iconst cx dX5_its_4 ?_
  refine z_iload_n cx dX5_its_5 rfl ?_
  refine z_iadd cx dX5_its_6 ?_
  refine z_iald cx (j) (by omega) (by omega) (co_s E _) dX5_its_7 ?_
  refine z_iret cx dX5_its_8 ?_
  exact ⟨rfl, rfl⟩
set_option maxRecDepth 100000 in
set_option maxHeartbeats 4000000 in
theorem c_X5_lays {E : En} {G : Wd} {x w v : Int} (j : Nat) (hj : 20 + 43 * x + w = (j : Int)) (hl : j < 880) : Ctv E yX5_lays cX5_lays 4 0 0 [.ref (E.1 6), .int (iN (x)), .int (iN (w)), .int (iN (v))] G (fun G' => G' = gup G 20 0 j v) := by
  refine Ctv.mk [some (.ref (E.1 6)), some (.int (iN (x))), some (.int (iN (w))), some (.int (iN (v)))] (by decide) rfl (by intro v hv; simp only [List.mem_cons, List.not_mem_nil, or_false] at hv; rcases hv with rfl | rfl | rfl | rfl <;> rfl) (Nat.le_of_ble_eq_true rfl) ?_
  intro p l e s m args below meth c cx
  refine z_aload_n cx dX5_lays_0 rfl ?_
  refine g_X5_0 cx fl_X5_7 dX5_lays_1 ?_
  refine z_bipush cx dX5_lays_4 ?_
  refine z_bipush cx dX5_lays_6 ?_
  refine z_iload_n cx dX5_lays_8 rfl ?_
  refine z_imul cx dX5_lays_9 ?_
  refine z_iadd cx dX5_lays_10 ?_
  refine z_iload_n cx dX5_lays_11 rfl ?_
  refine z_iadd cx dX5_lays_12 ?_
  refine z_iload_n cx dX5_lays_13 rfl ?_
  refine z_iast cx (j) (by omega) (by omega) rfl (fun G => co_s E G) dX5_lays_14 ?_
  refine z_vret cx dX5_lays_15 ?_
  exact rfl
set_option maxRecDepth 100000 in
set_option maxHeartbeats 4000000 in
theorem c_X5_letter {E : En} {G : Wd} {x w : Int} (j : Nat) (hj : 20 + 43 * x + (3 + w) = (j : Int)) (hl : j < 880) : Cti E yX5_letter cX5_letter 3 .int 1 22 [.ref (E.1 6), .int (iN (x)), .int (iN (w))] G (fun z G' => G' = G ∧ z = G 20 0 j) := by
  refine Cti.mk [some (.ref (E.1 6)), some (.int (iN (x))), some (.int (iN (w)))] (by decide) rfl (by intro v hv; simp only [List.mem_cons, List.not_mem_nil, or_false] at hv; rcases hv with rfl | rfl | rfl <;> rfl) (Nat.le_of_ble_eq_true rfl) ?_
  intro p l e s m args below meth c cx
  refine z_aload_n cx dX5_letter_0 rfl ?_
  refine z_iload_n cx dX5_letter_1 rfl ?_
  refine z_iconst cx dX5_letter_2 ?_
  refine z_iload_n cx dX5_letter_3 rfl ?_
  refine z_iadd cx dX5_letter_4 ?_
  refine z_vi cx (c_X5_of j (by omega) hl) rfl mv_X5_of ml_X5_43 (by omega) (co_mod E _) rfl dX5_letter_5 (fun z5 G5 hz5 => ?_)
  obtain ⟨eG, rfl⟩ := hz5
  have eG := eG.symm
  subst eG
  refine z_iret cx dX5_letter_8 ?_
  exact ⟨rfl, rfl⟩
set_option maxRecDepth 100000 in
set_option maxHeartbeats 4000000 in
theorem c_X5_framesOf {E : En} {G : Wd} {x : Int} (j : Nat) (hj : 20 + 43 * x = (j : Int)) (hl : j < 800 + 43) : Cti E yX5_framesOf cX5_framesOf 2 .int 1 22 [.ref (E.1 6), .int (iN (x))] G (fun z G' => G' = G ∧ z = G 20 0 (j + 1) - G 20 0 j) := by
  refine Cti.mk [some (.ref (E.1 6)), some (.int (iN (x)))] (by decide) rfl (by intro v hv; simp only [List.mem_cons, List.not_mem_nil, or_false] at hv; rcases hv with rfl | rfl <;> rfl) (Nat.le_of_ble_eq_true rfl) ?_
  intro p l e s m args below meth c cx
  refine z_aload_n cx dX5_framesOf_0 rfl ?_
  refine z_iload_n cx dX5_framesOf_1 rfl ?_
  refine z_iconst cx dX5_framesOf_2 ?_
  refine z_vi cx (c_X5_of (j + 1) (by omega) (by omega)) rfl mv_X5_of ml_X5_43 (by omega) (co_mod E _) rfl dX5_framesOf_3 (fun z3 G3 hz3 => ?_)
  obtain ⟨eG, rfl⟩ := hz3
  have eG := eG.symm
  subst eG
  refine z_aload_n cx dX5_framesOf_6 rfl ?_
  refine z_iload_n cx dX5_framesOf_7 rfl ?_
  refine z_iconst cx dX5_framesOf_8 ?_
  refine z_vi cx (c_X5_of j (by omega) (by omega)) rfl mv_X5_of ml_X5_43 (by omega) (co_mod E _) rfl dX5_framesOf_9 (fun z9 G9 hz9 => ?_)
  obtain ⟨eG, rfl⟩ := hz9
  have eG := eG.symm
  subst eG
  refine z_isub cx dX5_framesOf_12 ?_
  refine z_iret cx dX5_framesOf_13 ?_
  exact ⟨rfl, rfl⟩
set_option maxRecDepth 100000 in
set_option maxHeartbeats 4000000 in
theorem c_X5_far {E : En} {G : Wd} {x y : Int} (h : -100000 ≤ x ∧ x ≤ 100000 ∧ -100000 ≤ y ∧ y ≤ 100000) : Cti E yX5_far cX5_far 2 .int 0 0 [.int (iN (x)), .int (iN (y))] G (fun z G' => G' = G ∧ z = ((x - y).natAbs : Int)) := by
  refine Cti.mk [some (.int (iN (x))), some (.int (iN (y)))] (by decide) rfl (by intro v hv; simp only [List.mem_cons, List.not_mem_nil, or_false] at hv; rcases hv with rfl | rfl <;> rfl) (Nat.le_of_ble_eq_true rfl) ?_
  intro p l e s m args below meth c cx
  refine z_iload_n cx dX5_far_0 rfl ?_
  refine z_iload_n cx dX5_far_1 rfl ?_
  refine z_icmp_ge cx (tgt := 11) dX5_far_2 (fun h2 => ?_) (fun h2 => ?_)
  · skip
    refine z_iload_n cx dX5_far_11 rfl ?_
    refine z_iload_n cx dX5_far_12 rfl ?_
    refine z_isub cx dX5_far_13 ?_
    refine z_iret cx dX5_far_14 ?_
    exact ⟨rfl, by omega⟩
  · skip
    refine z_iload_n cx dX5_far_5 rfl ?_
    refine z_iload_n cx dX5_far_6 rfl ?_
    refine z_isub cx dX5_far_7 ?_
    refine z_goto cx (tgt := 14) dX5_far_8 ?_
    refine z_iret cx dX5_far_14 ?_
    exact ⟨rfl, by omega⟩
set_option maxRecDepth 100000 in
set_option maxHeartbeats 4000000 in
theorem c_X5_moves {E : En} {G : Wd} {x y : Int} (a b : Nat) (ha : x = (a : Int)) (hb : y = (b : Int)) (hl : a < 20 ∧ b < 20 ∧ a ≠ b) : Ctv E yX5_moves cX5_moves 4 1 23 [.ref (E.1 6), .int (iN (x)), .int (iN (y))] G (fun G' => G' = gcp G 20 0 20 0 (20 + 43 * a) (20 + 43 * b) 43) := by
  refine Ctv.mk [some (.ref (E.1 6)), some (.int (iN (x))), some (.int (iN (y))), none] (by decide) rfl (by intro v hv; simp only [List.mem_cons, List.not_mem_nil, or_false] at hv; rcases hv with rfl | rfl | rfl <;> rfl) (Nat.le_of_ble_eq_true rfl) ?_
  intro p l e s m args below meth c cx
  have L2 : ∀ (n : Nat) (k : Nat) (G1 : Wd), (60 - k) < n → (k ≤ 43) → (G1 = gcp G 20 0 20 0 (20 + 43 * a) (20 + 43 * b) k) → Z p l e (zr 1 23) s m args below meth c 4 0 0 E (Qv_ E below args s (fun G' => G' = gcp G 20 0 20 0 (20 + 43 * a) (20 + 43 * b) 43)) G1 2 [some (.ref (E.1 6)), some (.int (iN (x))), some (.int (iN (y))), some (.int (iN ((k : Int))))] [] := by
    intro n
    induction n with
    | zero =>
      intro k G1 hmu
      exact absurd hmu (Nat.not_lt_zero _)
    | succ n ih =>
      intro k G1 hmu hk hG1
      refine z_iload_n cx dX5_moves_2 rfl ?_
      refine z_bipush cx dX5_moves_3 ?_
      refine z_icmp_ge cx (tgt := 26) dX5_moves_5 (fun h5 => ?_) (fun h5 => ?_)
      · skip
        refine z_vret cx dX5_moves_26 ?_
        rw [hG1, show k = 43 by omega]
      · skip
        refine z_aload_n cx dX5_moves_8 rfl ?_
        refine z_iload_n cx dX5_moves_9 rfl ?_
        refine z_iload_n cx dX5_moves_10 rfl ?_
        refine z_aload_n cx dX5_moves_11 rfl ?_
        refine z_iload_n cx dX5_moves_12 rfl ?_
        refine z_iload_n cx dX5_moves_13 rfl ?_
        refine z_vi cx (c_X5_of (20 + 43 * a + k) (by omega) (by omega)) rfl mv_X5_of ml_X5_43 (by omega) (co_mod E _) rfl dX5_moves_14 (fun z14 G14 hz14 => ?_)
        obtain ⟨eG, rfl⟩ := hz14
        have eG := eG.symm
        subst eG
        refine z_vv cx (c_X5_lays (20 + 43 * b + k) (by omega) (by omega)) rfl mv_X5_lays ml_X5_51 (by omega) (co_mod E _) rfl dX5_moves_17 (fun G17 hz17 => ?_)
        subst hz17
        refine z_iinc cx dX5_moves_20 rfl ?_
        refine z_goto cx (tgt := 2) dX5_moves_23 ?_
        refine Z.locs (ih (k + 1) _ (by omega) (by omega) (by rw [hG1]; exact gcp_step _ _ _ _ _ _ _ _ (by omega))) ⟨rfl, rfl, rfl, rfl, trivial⟩
  refine z_iconst cx dX5_moves_0 ?_
  refine z_istore_n cx dX5_moves_1 ?_
  refine Z.locs (L2 _ (0) _ (Nat.lt_succ_self _) (by omega) (gcp_0 _ _ _ _ _ _ _).symm) ⟨rfl, rfl, rfl, rfl, trivial⟩
set_option maxRecDepth 100000 in
set_option maxHeartbeats 4000000 in
theorem c_X5_copies {E : En} {G : Wd} {x y : Int} {c0 c1 n0 n1 f0 f1 : Nat} (sp dp : Nat) (hx : x = (sp : Int)) (hy : y = (dp : Int)) (hn : c0 < 278 ∧ c1 < 278 ∧ sp + 880 ≤ n0 ∧ dp + 880 ≤ n1 ∧ n0 < 100000 ∧ n1 < 100000 ∧ f0 ≠ f1) (hcel : cel f1 0 = c1) (hc0 : ∀ G : Wd, cont E G c0 = ci_ E 0 n0 (fun i => iN (G f0 0 i))) (hc1 : ∀ G : Wd, cont E G c1 = ci_ E 0 n1 (fun i => iN (G f1 0 i))) : Ctv E yX5_copies cX5_copies 5 0 0 [.ref (E.1 c0), .int (iN (x)), .ref (E.1 c1), .int (iN (y))] G (fun G' => G' = gcp G f1 0 f0 0 sp dp 880) := by
  refine Ctv.mk [some (.ref (E.1 c0)), some (.int (iN (x))), some (.ref (E.1 c1)), some (.int (iN (y))), none] (by decide) rfl (by intro v hv; simp only [List.mem_cons, List.not_mem_nil, or_false] at hv; rcases hv with rfl | rfl | rfl | rfl <;> rfl) (Nat.le_of_ble_eq_true rfl) ?_
  intro p l e s m args below meth c cx
  have L3 : ∀ (n : Nat) (k : Nat) (G1 : Wd), (900 - k) < n → (k ≤ 880) → (G1 = gcp G f1 0 f0 0 sp dp k) → Z p l e (zr 0 0) s m args below meth c 5 0 0 E (Qv_ E below args s (fun G' => G' = gcp G f1 0 f0 0 sp dp 880)) G1 3 [some (.ref (E.1 c0)), some (.int (iN (x))), some (.ref (E.1 c1)), some (.int (iN (y))), some (.int (iN ((k : Int))))] [] := by
    intro n
    induction n with
    | zero =>
      intro k G1 hmu
      exact absurd hmu (Nat.not_lt_zero _)
    | succ n ih =>
      intro k G1 hmu hk hG1
      refine z_iload cx dX5_copies_3 rfl ?_
      refine z_sipush cx dX5_copies_5 ?_
      refine z_icmp_ge cx (tgt := 29) dX5_copies_8 (fun h8 => ?_) (fun h8 => ?_)
      · skip
        refine z_vret cx dX5_copies_29 ?_
        rw [hG1, show k = 880 by omega]
      · skip
        refine z_aload_n cx dX5_copies_11 rfl ?_
        refine z_iload_n cx dX5_copies_12 rfl ?_
        refine z_iload cx dX5_copies_13 rfl ?_
        refine z_iadd cx dX5_copies_15 ?_
        refine z_aload_n cx dX5_copies_16 rfl ?_
        refine z_iload_n cx dX5_copies_17 rfl ?_
        refine z_iload cx dX5_copies_18 rfl ?_
        refine z_iadd cx dX5_copies_20 ?_
        refine z_iald cx (sp + k) (by omega) hn.1 (hc0 _) dX5_copies_21 (hnn := by omega) ?_
        refine z_iast cx (dp + k) (by omega) hn.2.1 hcel hc1 dX5_copies_22 (hnn := by omega) ?_
        refine z_iinc cx dX5_copies_23 rfl ?_
        refine z_goto cx (tgt := 3) dX5_copies_26 ?_
        refine Z.locs (ih (k + 1) _ (by omega) (by omega) (by rw [hG1]; exact gcp_step _ _ _ _ _ _ _ _ (by omega))) ⟨rfl, rfl, rfl, rfl, rfl, trivial⟩
  refine z_iconst cx dX5_copies_0 ?_
  refine z_istore cx dX5_copies_1 ?_
  refine Z.locs (L3 _ (0) _ (Nat.lt_succ_self _) (by omega) (gcp_0 _ _ _ _ _ _ _).symm) ⟨rfl, rfl, rfl, rfl, rfl, trivial⟩
set_option maxRecDepth 100000 in
set_option maxHeartbeats 4000000 in
theorem c_X5_begins {E : En} {G : Wd} : Ctv E yX5_begins cX5_begins 1 1 24 [.ref (E.1 6)] G (fun G' => G' = gcp G 22 0 20 0 0 0 880) := by
  refine Ctv.mk [some (.ref (E.1 6))] (by decide) rfl (by intro v hv; simp only [List.mem_cons, List.not_mem_nil, or_false] at hv; subst hv; rfl) (Nat.le_of_ble_eq_true rfl) ?_
  intro p l e s m args below meth c cx
  refine z_aload_n cx dX5_begins_0 rfl ?_
  refine g_X5_0 cx fl_X5_7 dX5_begins_1 ?_
  refine z_iconst cx dX5_begins_4 ?_
  refine z_aload_n cx dX5_begins_5 rfl ?_
  refine g_X5_2 cx fl_X5_16 dX5_begins_6 ?_
  refine z_iconst cx dX5_begins_9 ?_
  refine z_sv cx (c_X5_copies (c0 := 7) (c1 := 9) (n0 := 880) (n1 := 880) (f0 := 20) (f1 := 22) 0 0 rfl rfl (by omega) rfl (co_s E) (co_before E)) rfl ms_X5_copies ml_X5_31 dX5_begins_10 (fun G10 hz10 => ?_)
  subst hz10
  refine z_vret cx dX5_begins_13 ?_
  exact rfl
set_option maxRecDepth 100000 in
set_option maxHeartbeats 4000000 in
theorem c_X5_isSubtitle {E : En} {G : Wd} {x n : Int} (h : -2147483648 ≤ x ∧ x < 2147483648 ∧ 0 ≤ n ∧ n ≤ 100) (hn : G 20 0 0 = n) : Cti E yX5_isSubtitle cX5_isSubtitle 2 .boolean 1 22 [.ref (E.1 6), .int (iN (x))] G (fun z G' => G' = G ∧ (z = 1 ∧ 0 ≤ x ∧ x < n ∨ z = 0 ∧ ¬ (0 ≤ x ∧ x < n))) := by
  refine Cti.mk [some (.ref (E.1 6)), some (.int (iN (x)))] (by decide) rfl (by intro v hv; simp only [List.mem_cons, List.not_mem_nil, or_false] at hv; rcases hv with rfl | rfl <;> rfl) (Nat.le_of_ble_eq_true rfl) ?_
  intro p l e s m args below meth c cx
  refine z_iload_n cx dX5_isSubtitle_0 rfl ?_
  refine z_iconst cx dX5_isSubtitle_1 ?_
  refine z_aload_n cx dX5_isSubtitle_2 rfl ?_
  refine g_X5_0 cx fl_X5_7 dX5_isSubtitle_3 ?_
  refine z_iconst cx dX5_isSubtitle_6 ?_
  refine z_iald cx (0) (by omega) (by omega) (co_s E _) dX5_isSubtitle_7 ?_
  refine z_iconst cx dX5_isSubtitle_8 ?_
  refine z_isub cx dX5_isSubtitle_9 ?_
  refine z_si cx (c_X5_in (by omega)) rfl ms_X5_in ml_X5_39 dX5_isSubtitle_10 (fun z10 G10 hz10 => ?_)
  obtain ⟨eG, hz10⟩ := hz10
  have eG := eG.symm
  subst eG
  refine z_zret cx dX5_isSubtitle_13 ?_
  exact ⟨rfl, by omega⟩
set_option maxRecDepth 100000 in
set_option maxHeartbeats 4000000 in
theorem c_X5_opens {E : En} {G : Wd} {x : Int} (a n0 : Nat) (ha : x = (a : Int)) (hn0 : G 20 0 0 = (n0 : Int)) (hl : a ≤ n0 ∧ n0 < 20) : Ctv E yX5_opens cX5_opens 3 2 46 [.ref (E.1 6), .int (iN (x))] G (fun G' => MOpen G G' a n0) := by
  refine Ctv.mk [some (.ref (E.1 6)), some (.int (iN (x))), none] (by decide) rfl (by intro v hv; simp only [List.mem_cons, List.not_mem_nil, or_false] at hv; rcases hv with rfl | rfl <;> rfl) (Nat.le_of_ble_eq_true rfl) ?_
  intro p l e s m args below meth c cx
  have L38 : ∀ (n : Nat) (k : Nat) (G1 : Wd), (60 - k) < n → (k ≤ 43) → (MOpen G G1 a n0) → Z p l e (zr 2 46) s m args below meth c 3 0 0 E (Qv_ E below args s (fun G' => MOpen G G' a n0)) G1 38 [some (.ref (E.1 6)), some (.int (iN (x))), some (.int (iN ((k : Int))))] [] := by
    intro n
    induction n with
    | zero =>
      intro k G1 hmu
      exact absurd hmu (Nat.not_lt_zero _)
    | succ n ih =>
      intro k G1 hmu hk hop
      refine z_iload_n cx dX5_opens_38 rfl ?_
      refine z_bipush cx dX5_opens_39 ?_
      refine z_icmp_ge cx (tgt := 57) dX5_opens_41 (fun h41 => ?_) (fun h41 => ?_)
      · skip
        refine z_vret cx dX5_opens_57 ?_
        exact hop
      · skip
        refine z_aload_n cx dX5_opens_44 rfl ?_
        refine z_iload_n cx dX5_opens_45 rfl ?_
        refine z_iload_n cx dX5_opens_46 rfl ?_
        refine z_iconst cx dX5_opens_47 ?_
        refine z_vv cx (c_X5_lays (20 + 43 * a + k) (by omega) (by omega)) rfl mv_X5_lays ml_X5_51 (by omega) (co_mod E _) rfl dX5_opens_48 (fun G48 hz48 => ?_)
        subst hz48
        refine z_iinc cx dX5_opens_51 rfl ?_
        refine z_goto cx (tgt := 38) dX5_opens_54 ?_
        refine Z.locs (ih (k + 1) _ (by omega) (by omega) ⟨hop.1.up, by rw [gup_i _ _ _ _ _ (by omega)]; exact hop.2.1, fun j h1 h2 => by rw [gup_i _ _ _ _ _ (by omega)]; exact hop.2.2 j h1 h2⟩) ⟨rfl, rfl, rfl, trivial⟩
  have L7 : ∀ (n : Nat) (k : Nat) (G1 : Wd), k < n → (a ≤ k ∧ k ≤ n0) → (FrM G G1) → (∀ j, G1 20 0 j = if 20 + 43 * k + 43 ≤ j ∧ j < 20 + 43 * n0 + 43 then G 20 0 (j - 43) else G 20 0 j) → Z p l e (zr 2 46) s m args below meth c 3 0 0 E (Qv_ E below args s (fun G' => MOpen G G' a n0)) G1 7 [some (.ref (E.1 6)), some (.int (iN (x))), some (.int (iN ((k : Int))))] [] := by
    intro n
    induction n with
    | zero =>
      intro k G1 hmu
      exact absurd hmu (Nat.not_lt_zero _)
    | succ n ih =>
      intro k G1 hmu hk hfr hG1
      refine z_iload_n cx dX5_opens_7 rfl ?_
      refine z_iload_n cx dX5_opens_8 rfl ?_
      refine z_icmp_le cx (tgt := 26) dX5_opens_9 (fun h9 => ?_) (fun h9 => ?_)
      · skip
        have e0 : G1 20 0 0 = (n0 : Int) := by rw [hG1, if_neg (by omega)]; exact hn0
        refine z_aload_n cx dX5_opens_26 rfl ?_
        refine g_X5_0 cx fl_X5_7 dX5_opens_27 ?_
        refine z_iconst cx dX5_opens_30 ?_
        refine z_dup2 cx dX5_opens_31 ?_
        refine z_iald cx (0) (by omega) (by omega) (co_s E _) dX5_opens_32 ?_
        refine z_iconst cx dX5_opens_33 ?_
        refine z_iadd cx dX5_opens_34 ?_
        refine z_iast cx (0) (by omega) (by omega) rfl (fun G => co_s E G) dX5_opens_35 ?_
        refine z_iconst cx dX5_opens_36 ?_
        refine z_istore_n cx dX5_opens_37 ?_
        refine Z.locs (L38 _ (0) _ (Nat.lt_succ_self _) (by omega) ⟨hfr.up, by rw [gup_s, e0], fun j h1 h2 => by rw [gup_i _ _ _ _ _ h1, hG1]; by_cases w : 20 + 43 * a + 43 ≤ j ∧ j < 20 + 43 * n0 + 43; (rw [if_pos w, if_pos (by omega)]); (rw [if_neg w, if_neg (by omega)])⟩) ⟨rfl, rfl, rfl, trivial⟩
      · skip
        refine z_aload_n cx dX5_opens_12 rfl ?_
        refine z_iload_n cx dX5_opens_13 rfl ?_
        refine z_iconst cx dX5_opens_14 ?_
        refine z_isub cx dX5_opens_15 ?_
        refine z_iload_n cx dX5_opens_16 rfl ?_
        refine z_vv cx (c_X5_moves (k - 1) k (by omega) rfl (by omega)) rfl mv_X5_moves ml_X5_55 (by omega) (co_mod E _) rfl dX5_opens_17 (fun G17 hz17 => ?_)
        subst hz17
        refine z_iinc cx dX5_opens_20 rfl ?_
        refine z_goto cx (tgt := 7) dX5_opens_23 ?_
        rw [show ((k : Int) + -1) = ((k - 1 : Nat) : Int) by omega]
        refine Z.locs (ih (k - 1) _ (by omega) (by omega) (fun f a i w => by rw [gcp_eq, if_neg (by omega)]; exact hfr f a i w) (fun j => by rw [gcp_eq]; by_cases w : 20 + 43 * k ≤ j ∧ j < 20 + 43 * k + 43; (rw [if_pos ⟨rfl, rfl, by omega, by omega⟩, hG1, if_neg (by omega), if_pos (by omega)]; congr 1; omega); (rw [if_neg (by omega), hG1]; by_cases w2 : 20 + 43 * k + 43 ≤ j ∧ j < 20 + 43 * n0 + 43; (rw [if_pos w2, if_pos (by omega)]); (rw [if_neg w2, if_neg (by omega)])))) ⟨rfl, rfl, rfl, trivial⟩
  refine z_aload_n cx dX5_opens_0 rfl ?_
  refine g_X5_0 cx fl_X5_7 dX5_opens_1 ?_
  refine z_iconst cx dX5_opens_4 ?_
  skip
  refine z_iald cx (0) (by omega) (by omega) (co_s E _) dX5_opens_5 ?_
  rw [hn0]
  refine z_istore_n cx dX5_opens_6 ?_
  refine Z.locs (L7 _ (n0) _ (Nat.lt_succ_self _) (by omega) FrM.rf (fun j => by rw [if_neg (by omega)])) ⟨rfl, rfl, rfl, trivial⟩
set_option maxRecDepth 100000 in
set_option maxHeartbeats 4000000 in
theorem c_X5_closes {E : En} {G : Wd} {x : Int} (a n0 : Nat) (ha : x = (a : Int)) (hn0 : G 20 0 0 = (n0 : Int)) (hl : a < n0 ∧ n0 ≤ 20) : Ctv E yX5_closes cX5_closes 3 2 46 [.ref (E.1 6), .int (iN (x))] G (fun G' => MClose G G' a n0) := by
  refine Ctv.mk [some (.ref (E.1 6)), some (.int (iN (x))), none] (by decide) rfl (by intro v hv; simp only [List.mem_cons, List.not_mem_nil, or_false] at hv; rcases hv with rfl | rfl <;> rfl) (Nat.le_of_ble_eq_true rfl) ?_
  intro p l e s m args below meth c cx
  have L38 : ∀ (n : Nat) (k : Nat) (G1 : Wd), (60 - k) < n → (k ≤ 43) → (MClose G G1 a n0) → Z p l e (zr 2 46) s m args below meth c 3 0 0 E (Qv_ E below args s (fun G' => MClose G G' a n0)) G1 38 [some (.ref (E.1 6)), some (.int (iN ((a : Int)))), some (.int (iN ((k : Int))))] [] := by
    intro n
    induction n with
    | zero =>
      intro k G1 hmu
      exact absurd hmu (Nat.not_lt_zero _)
    | succ n ih =>
      intro k G1 hmu hk hop
      have e0 := hop.2.1
      refine z_iload_n cx dX5_closes_38 rfl ?_
      refine z_bipush cx dX5_closes_39 ?_
      refine z_icmp_ge cx (tgt := 62) dX5_closes_41 (fun h41 => ?_) (fun h41 => ?_)
      · skip
        refine z_vret cx dX5_closes_62 ?_
        exact hop
      · skip
        refine z_aload_n cx dX5_closes_44 rfl ?_
        refine z_aload_n cx dX5_closes_45 rfl ?_
        refine g_X5_0 cx fl_X5_7 dX5_closes_46 ?_
        refine z_iconst cx dX5_closes_49 ?_
        refine z_iald cx (0) (by omega) (by omega) (co_s E _) dX5_closes_50 ?_
        refine z_iload_n cx dX5_closes_51 rfl ?_
        refine z_iconst cx dX5_closes_52 ?_
        refine z_vv cx (c_X5_lays (20 + 43 * (n0 - 1) + k) (by omega) (by omega)) rfl mv_X5_lays ml_X5_51 (by omega) (co_mod E _) rfl dX5_closes_53 (fun G53 hz53 => ?_)
        subst hz53
        refine z_iinc cx dX5_closes_56 rfl ?_
        refine z_goto cx (tgt := 38) dX5_closes_59 ?_
        refine Z.locs (ih (k + 1) _ (by omega) (by omega) ⟨hop.1.up, by rw [gup_i _ _ _ _ _ (by omega)]; exact hop.2.1, fun j h1 h2 => by rw [gup_i _ _ _ _ _ (by omega)]; exact hop.2.2 j h1 h2⟩) ⟨rfl, rfl, rfl, trivial⟩
  have L12 : ∀ (n : Nat) (k : Nat) (G1 : Wd), (60 - k) < n → (a ≤ k ∧ k ≤ n0 - 1) → (FrM G G1) → (G1 20 0 0 = (n0 : Int) - 1) → (∀ j, j ≠ 0 → G1 20 0 j = if 20 + 43 * a ≤ j ∧ j < 20 + 43 * k then G 20 0 (j + 43) else G 20 0 j) → Z p l e (zr 2 46) s m args below meth c 3 0 0 E (Qv_ E below args s (fun G' => MClose G G' a n0)) G1 12 [some (.ref (E.1 6)), some (.int (iN ((a : Int)))), some (.int (iN ((k : Int))))] [] := by
    intro n
    induction n with
    | zero =>
      intro k G1 hmu
      exact absurd hmu (Nat.not_lt_zero _)
    | succ n ih =>
      intro k G1 hmu hk hfr e0 hG1
      refine z_iload_n cx dX5_closes_12 rfl ?_
      refine z_aload_n cx dX5_closes_13 rfl ?_
      refine g_X5_0 cx fl_X5_7 dX5_closes_14 ?_
      refine z_iconst cx dX5_closes_17 ?_
      refine z_iald cx (0) (by omega) (by omega) (co_s E _) dX5_closes_18 ?_
      refine z_icmp_ge cx (tgt := 36) dX5_closes_19 (fun h19 => ?_) (fun h19 => ?_)
      · skip
        refine z_iconst cx dX5_closes_36 ?_
        refine z_istore_n cx dX5_closes_37 ?_
        refine Z.locs (L38 _ (0) _ (Nat.lt_succ_self _) (by omega) ⟨hfr, e0, fun j h1 h2 => by rw [hG1 j h1]; by_cases w : 20 + 43 * a ≤ j ∧ j < 20 + 43 * (n0 - 1); (rw [if_pos w, if_pos (by omega)]); (rw [if_neg w, if_neg (by omega)])⟩) ⟨rfl, rfl, rfl, trivial⟩
      · skip
        refine z_aload_n cx dX5_closes_22 rfl ?_
        refine z_iload_n cx dX5_closes_23 rfl ?_
        refine z_iconst cx dX5_closes_24 ?_
        refine z_iadd cx dX5_closes_25 ?_
        refine z_iload_n cx dX5_closes_26 rfl ?_
        refine z_vv cx (c_X5_moves (k + 1) k (by omega) rfl (by omega)) rfl mv_X5_moves ml_X5_55 (by omega) (co_mod E _) rfl dX5_closes_27 (fun G27 hz27 => ?_)
        subst hz27
        refine z_iinc cx dX5_closes_30 rfl ?_
        refine z_goto cx (tgt := 12) dX5_closes_33 ?_
        refine Z.locs (ih (k + 1) _ (by omega) (by omega) (fun f a i w => by rw [gcp_eq, if_neg (by omega)]; exact hfr f a i w) (by rw [gcp_eq, if_neg (by omega)]; exact e0) (fun j h1 => by rw [gcp_eq]; by_cases w : 20 + 43 * k ≤ j ∧ j < 20 + 43 * k + 43; (rw [if_pos ⟨rfl, rfl, by omega, by omega⟩, hG1 _ (by omega), if_neg (by omega), if_pos (by omega)]; congr 1; omega); (rw [if_neg (by omega), hG1 j h1]; by_cases w2 : 20 + 43 * a ≤ j ∧ j < 20 + 43 * k; (rw [if_pos w2, if_pos (by omega)]); (rw [if_neg w2, if_neg (by omega)])))) ⟨rfl, rfl, rfl, trivial⟩
  refine z_aload_n cx dX5_closes_0 rfl ?_
  refine g_X5_0 cx fl_X5_7 dX5_closes_1 ?_
  refine z_iconst cx dX5_closes_4 ?_
  refine z_dup2 cx dX5_closes_5 ?_
  refine z_iald cx (0) (by omega) (by omega) (co_s E _) dX5_closes_6 ?_
  refine z_iconst cx dX5_closes_7 ?_
  refine z_isub cx dX5_closes_8 ?_
  refine z_iast cx (0) (by omega) (by omega) rfl (fun G => co_s E G) dX5_closes_9 ?_
  refine z_iload_n cx dX5_closes_10 rfl ?_
  refine z_istore_n cx dX5_closes_11 ?_
  rw [ha]
  refine Z.locs (L12 _ (a) _ (Nat.lt_succ_self _) (by omega) FrM.rf.up (by rw [gup_s, hn0]) (fun j h1 => by rw [if_neg (by omega), gup_i _ _ _ _ _ h1])) ⟨rfl, rfl, rfl, trivial⟩
set_option maxRecDepth 100000 in
set_option maxHeartbeats 4000000 in
theorem c_X5_records {E : En} {G : Wd} {t : Int} {A : Ast} {F : Fm} (hM : MMid G A F) (hA : AOk A) : Cti E yX5_records cX5_records 3 .int 1 24 [.ref (E.1 6), .int (iN (t))] G (fun z G' => z = t ∧ MRel G' (act A F) ∧ CFx G G') := by
  have hl4 := hA.2.1
  have hkn := hM.2.2.1
  refine Cti.mk [some (.ref (E.1 6)), some (.int (iN (t))), none] (by decide) rfl (by intro v hv; simp only [List.mem_cons, List.not_mem_nil, or_false] at hv; rcases hv with rfl | rfl <;> rfl) (Nat.le_of_ble_eq_true rfl) ?_
  intro p l e s m args below meth c cx
  have L49 : ∀ (G1 : Wd), (G1 27 0 0 = min (A.2.1.length : Int) 3) → (∀ j, j < 880 * 3 → A.2.1.length = 4 → G1 23 0 j = G 23 0 (j + 880)) → (A.2.1.length < 4 → ∀ j, G1 23 0 j = G 23 0 j) → (∀ f a i, f ≠ 23 → f ≠ 27 → G1 f a i = G f a i) → Z p l e (zr 1 24) s m args below meth c 3 0 0 E (Qi_ E below args s (fun z G' => z = t ∧ MRel G' (act A F) ∧ CFx G G')) G1 49 [some (.ref (E.1 6)), some (.int (iN (t))), none] [] := by
    intro G1 hk hp hp2 ho
    refine z_aload_n cx dX5_records_49 rfl ?_
    refine g_X5_2 cx fl_X5_16 dX5_records_50 ?_
    refine z_iconst cx dX5_records_53 ?_
    refine z_aload_n cx dX5_records_54 rfl ?_
    refine g_X5_3 cx fl_X5_19 dX5_records_55 ?_
    refine z_sipush cx dX5_records_58 ?_
    refine z_aload_n cx dX5_records_61 rfl ?_
    refine g_X5_4 cx fl_X5_35 dX5_records_62 ?_
    refine z_imul cx dX5_records_65 ?_
    refine z_sv cx (c_X5_copies (c0 := 9) (c1 := 10) (n0 := 880) (n1 := 3520) (f0 := 22) (f1 := 23) 0 (880 * min A.2.1.length 3) rfl (by rw [hk]; omega) (by omega) rfl (co_before E) (co_past E)) rfl ms_X5_copies ml_X5_31 dX5_records_66 (fun G66 hz66 => ?_)
    subst hz66
    refine z_aload_n cx dX5_records_69 rfl ?_
    refine z_dup cx dX5_records_70 ?_
    refine g_X5_4 cx fl_X5_35 dX5_records_71 ?_
    refine z_iconst cx dX5_records_74 ?_
    refine z_iadd cx dX5_records_75 ?_
    refine p_X5_4 cx fl_X5_35 dX5_records_76 ?_
    refine z_iload_n cx dX5_records_79 rfl ?_
    refine z_iret cx dX5_records_80 ?_
    refine ⟨rfl, mrec_rel hM hA ?_ ?_ ?_ ?_ ?_ ?_, ?_⟩
    · funext i
      rw [gup_f _ _ _ _ _ _ _ (by decide), gcp_eq, if_neg (by omega)]
      exact ho 20 0 i (by omega) (by omega)
    · rw [gup_s, gcp_eq, if_neg (by omega), hk]
      omega
    · intro j h1 h2
      rw [gup_f _ _ _ _ _ _ _ (by decide), gcp_eq, if_neg (by omega)]
      exact hp j h1 h2
    · intro j h1 h2
      rw [gup_f _ _ _ _ _ _ _ (by decide), gcp_eq, if_neg (by omega)]
      exact hp2 h2 j
    · intro j h1
      rw [gup_f _ _ _ _ _ _ _ (by decide), gcp_eq, if_pos ⟨rfl, rfl, by omega, by omega⟩, ho 22 0 _ (by omega) (by omega)]
      congr 1
      omega
    · intro f i w
      rw [gup_f _ _ _ _ _ _ _ (by omega), gcp_eq, if_neg (by omega)]
      exact ho f 0 i (by omega) (by omega)
    · intro f a i w
      rw [gup_f _ _ _ _ _ _ _ (by omega), gcp_eq, if_neg (by omega)]
      exact ho f a i (by omega) (by omega)
  have L10 : ∀ (n : Nat) (k : Nat) (G1 : Wd), (3000 - k) < n → (k ≤ 2640) → (G1 = gcp G 23 0 23 0 880 0 k) → (A.2.1.length = 4) → Z p l e (zr 1 24) s m args below meth c 3 0 0 E (Qi_ E below args s (fun z G' => z = t ∧ MRel G' (act A F) ∧ CFx G G')) G1 10 [some (.ref (E.1 6)), some (.int (iN (t))), some (.int (iN ((k : Int))))] [] := by
    intro n
    induction n with
    | zero =>
      intro k G1 hmu
      exact absurd hmu (Nat.not_lt_zero _)
    | succ n ih =>
      intro k G1 hmu hk hG1 h4
      refine z_iload_n cx dX5_records_10 rfl ?_
      refine z_sipush cx dX5_records_11 ?_
      refine z_icmp_ge cx (tgt := 39) dX5_records_14 (fun h14 => ?_) (fun h14 => ?_)
      · skip
        refine z_aload_n cx dX5_records_39 rfl ?_
        refine z_dup cx dX5_records_40 ?_
        refine g_X5_4 cx fl_X5_35 dX5_records_41 ?_
        refine z_iconst cx dX5_records_44 ?_
        refine z_isub cx dX5_records_45 ?_
        refine p_X5_4 cx fl_X5_35 dX5_records_46 ?_
        refine Z.locs (L49 _ (by rw [gup_s, hG1, gcp_eq, if_neg (by omega)]; omega) (fun j h1 _ => by rw [gup_f _ _ _ _ _ _ _ (by decide), hG1, gcp_eq, if_pos (by omega)]; congr 1; omega) (fun w => by omega) (fun f a i w1 w2 => by rw [gup_f _ _ _ _ _ _ _ w2, hG1, gcp_eq, if_neg (by omega)])) ⟨rfl, rfl, trivial⟩
      · skip
        refine z_aload_n cx dX5_records_17 rfl ?_
        refine g_X5_3 cx fl_X5_19 dX5_records_18 ?_
        refine z_iload_n cx dX5_records_21 rfl ?_
        refine z_aload_n cx dX5_records_22 rfl ?_
        refine g_X5_3 cx fl_X5_19 dX5_records_23 ?_
        refine z_iload_n cx dX5_records_26 rfl ?_
        refine z_sipush cx dX5_records_27 ?_
        refine z_iadd cx dX5_records_30 ?_
        have e31 : (k : Int) + 880 = ((880 + k : Nat) : Int) := by omega
        refine z_iald cx (880 + k) (by omega) (by omega) (co_past E _) dX5_records_31 ?_
        refine z_iast cx (k) (by omega) (by omega) rfl (fun G => co_past E G) dX5_records_32 ?_
        refine z_iinc cx dX5_records_33 rfl ?_
        refine z_goto cx (tgt := 10) dX5_records_36 ?_
        refine Z.locs (ih (k + 1) _ (by omega) (by omega) (by have q := gcp_step G 23 0 23 0 880 0 k (by omega); rw [Nat.zero_add] at q; rw [hG1]; exact q) h4) ⟨rfl, rfl, rfl, trivial⟩
  refine z_aload_n cx dX5_records_0 rfl ?_
  refine g_X5_4 cx fl_X5_35 dX5_records_1 ?_
  refine z_iconst cx dX5_records_4 ?_
  refine z_icmp_ne cx (tgt := 49) dX5_records_5 (fun h5 => ?_) (fun h5 => ?_)
  · skip
    refine Z.locs (L49 _ (by omega) (fun j _ w => by omega) (fun _ _ => rfl) (fun _ _ _ _ _ => rfl)) ⟨rfl, rfl, trivial⟩
  · skip
    refine z_iconst cx dX5_records_8 ?_
    refine z_istore_n cx dX5_records_9 ?_
    refine Z.locs (L10 _ (0) _ (Nat.lt_succ_self _) (by omega) (gcp_0 _ _ _ _ _ _ _).symm (by omega)) ⟨rfl, rfl, rfl, trivial⟩
