/-! ===== the model: calls ===== -/
set_option maxRecDepth 100000 in
set_option maxHeartbeats 4000000 in
theorem c_X5_append {E : En} {G : Wd} {A : Ast} (hR : MRel G A) (hA : AOk A) {x : Int} (hx : -2147483648 ≤ x ∧ x < 2147483648) : Cti E yX5_append cX5_append 2 .int 1 22 [.ref (E.1 6), .int (iN (x))] G (fun z G' => z = (s_append A x).1 ∧ MRel G' (s_append A x).2 ∧ CFx G G') := by
  have h28 := hR.2.2.2.1
  have h24 := hR.2.2.2.2.1
  have hs80 := hA.2.2.2.1.1
  refine Cti.mk [some (.ref (E.1 6)), some (.int (iN (x)))] (by decide) rfl (by intro v hv; simp only [List.mem_cons, List.not_mem_nil, or_false] at hv; rcases hv with rfl | rfl <;> rfl) (Nat.le_of_ble_eq_true rfl) ?_
  intro p l e s m args below meth c cx
  refine z_iload_n cx dX5_append_0 rfl ?_
  refine z_bipush cx dX5_append_1 ?_
  refine z_bipush cx dX5_append_3 ?_
  refine z_si cx (c_X5_in (by omega)) rfl ms_X5_in ml_X5_39 dX5_append_5 (fun z5 G5 hz5 => ?_)
  obtain ⟨eG, hz5⟩ := hz5
  have eG := eG.symm
  subst eG
  refine z_if_ne cx (tgt := 14) dX5_append_8 (fun h8 => ?_) (fun h8 => ?_)
  · skip
    refine z_aload_n cx dX5_append_14 rfl ?_
    refine g_X5_6 cx fl_X5_98 dX5_append_15 ?_
    refine z_bipush cx dX5_append_18 ?_
    refine z_icmp_ne cx (tgt := 26) dX5_append_20 (fun h20 => ?_) (fun h20 => ?_)
    · skip
      refine z_aload_n cx dX5_append_26 rfl ?_
      refine g_X5_5 cx fl_X5_22 dX5_append_27 ?_
      refine z_aload_n cx dX5_append_30 rfl ?_
      refine g_X5_6 cx fl_X5_98 dX5_append_31 ?_
      refine z_iload_n cx dX5_append_34 rfl ?_
      refine z_iast cx (A.2.2.1.length) (by omega) (by omega) rfl (fun G => co_mscr E G) dX5_append_35 ?_
      refine z_aload_n cx dX5_append_36 rfl ?_
      refine z_dup cx dX5_append_37 ?_
      refine g_X5_6 cx fl_X5_98 dX5_append_38 ?_
      refine z_iconst cx dX5_append_41 ?_
      refine z_iadd cx dX5_append_42 ?_
      refine p_X5_6 cx fl_X5_98 dX5_append_43 ?_
      refine z_aload_n cx dX5_append_46 rfl ?_
      refine g_X5_6 cx fl_X5_98 dX5_append_47 ?_
      refine z_iret cx dX5_append_50 ?_
      rw [show s_append A x = ((A.2.2.1.length : Int) + 1, (A.1, A.2.1, A.2.2.1 ++ [x], A.2.2.2)) from by unfold s_append; rw [if_pos (by omega), if_pos (by omega)]]
      refine ⟨by rw [gup_s, gup_f _ _ _ _ _ _ _ (by decide), h28], mscr_rel hR ?_ (fun i hi => ?_) (fun f a i h1 h2 => ?_)⟩
      · rw [gup_s, gup_f _ _ _ _ _ _ _ (by decide), h28, List.length_append]
        rfl
      · rw [List.length_append] at hi
        simp only [List.length_cons, List.length_nil] at hi
        rw [gup_f _ _ _ _ _ _ _ (by decide)]
        by_cases w : i < A.2.2.1.length
        · rw [gup_i _ _ _ _ _ (by omega), appL_l w]
          exact h24 i w
        · have w2 : i = A.2.2.1.length := by omega
          subst w2
          rw [gup_s, appL_r (Nat.le_refl _), Nat.sub_self]
          rfl
      · rw [gup_f _ _ _ _ _ _ _ h2, gup_f _ _ _ _ _ _ _ h1]
    · skip
      refine z_bipush cx dX5_append_23 ?_
      refine z_iret cx dX5_append_25 ?_
      rw [show s_append A x = (-4, A) from by unfold s_append; rw [if_pos (by omega), if_neg (by omega)]]
      exact ⟨rfl, hR, CFx.rf⟩
  · skip
    refine z_bipush cx dX5_append_11 ?_
    refine z_iret cx dX5_append_13 ?_
    rw [show s_append A x = (-2, A) from by unfold s_append; rw [if_neg (by omega)]]
    exact ⟨rfl, hR, CFx.rf⟩
set_option maxRecDepth 100000 in
set_option maxHeartbeats 4000000 in
theorem c_X5_clearScript {E : En} {G : Wd} {A : Ast} (hR : MRel G A) (hA : AOk A) : Cti E yX5_clearScript cX5_clearScript 2 .int 0 0 [.ref (E.1 6)] G (fun z G' => z = (s_clear A).1 ∧ MRel G' (s_clear A).2 ∧ CFx G G') := by
  have h28 := hR.2.2.2.1
  refine Cti.mk [some (.ref (E.1 6)), none] (by decide) rfl (by intro v hv; simp only [List.mem_cons, List.not_mem_nil, or_false] at hv; subst hv; rfl) (Nat.le_of_ble_eq_true rfl) ?_
  intro p l e s m args below meth c cx
  refine z_aload_n cx dX5_clearScript_0 rfl ?_
  refine g_X5_6 cx fl_X5_98 dX5_clearScript_1 ?_
  refine z_istore_n cx dX5_clearScript_4 ?_
  refine z_aload_n cx dX5_clearScript_5 rfl ?_
  refine z_iconst cx dX5_clearScript_6 ?_
  refine p_X5_6 cx fl_X5_98 dX5_clearScript_7 ?_
  refine z_iload_n cx dX5_clearScript_10 rfl ?_
  refine z_iret cx dX5_clearScript_11 ?_
  exact ⟨h28, mscr_rel (sc := []) hR (by rw [gup_s]; rfl) (fun i hi => absurd hi (Nat.not_lt_zero _)) (fun f a i h1 h2 => by rw [gup_f _ _ _ _ _ _ _ h2])⟩
set_option maxRecDepth 100000 in
set_option maxHeartbeats 4000000 in
theorem c_X5_why {E : En} {G : Wd} {A : Ast} (hR : MRel G A) (hA : AOk A) {x : Int} (hx : -2147483648 ≤ x ∧ x < 2147483648) : Cti E yX5_why cX5_why 2 .int 1 22 [.ref (E.1 6), .int (iN (x))] G (fun z G' => z = (s_why A x).1 ∧ MRel G' (s_why A x).2 ∧ CFx G G') := by
  have h35 := hR.2.2.2.2.2
  have h35b : G 35 0 0 = 0 ∨ G 35 0 0 = 1 := by rcases h35 with q | q <;> omega
  refine Cti.mk [some (.ref (E.1 6)), some (.int (iN (x)))] (by decide) rfl (by intro v hv; simp only [List.mem_cons, List.not_mem_nil, or_false] at hv; rcases hv with rfl | rfl <;> rfl) (Nat.le_of_ble_eq_true rfl) ?_
  intro p l e s m args below meth c cx
  refine z_iload_n cx dX5_why_0 rfl ?_
  refine z_iconst cx dX5_why_1 ?_
  refine z_iconst cx dX5_why_2 ?_
  refine z_si cx (c_X5_in (by omega)) rfl ms_X5_in ml_X5_39 dX5_why_3 (fun z3 G3 hz3 => ?_)
  obtain ⟨eG, hz3⟩ := hz3
  have eG := eG.symm
  subst eG
  refine z_if_ne cx (tgt := 14) dX5_why_6 (fun h6 => ?_) (fun h6 => ?_)
  · skip
    refine z_aload_n cx dX5_why_14 rfl ?_
    refine g_X5_14 cx fl_X5_150 dX5_why_15 ?_
    refine z_if_eq cx (tgt := 30) dX5_why_18 (fun h18 => ?_) (fun h18 => ?_)
    · skip
      refine z_bipush cx dX5_why_30 ?_
      refine z_iret cx dX5_why_32 ?_
      unfold s_why
      rw [if_pos (by omega)]
      refine ⟨?_, hR, CFx.rf⟩
      rcases h35 with ⟨-, q0, q1, q2⟩ | q
      · dsimp only
        split
        · exact q0.symm
        · split
          · exact q1.symm
          · exact q2.symm
      · exfalso; omega
    · skip
      obtain ⟨k, rfl⟩ : ∃ k : Nat, x = k := ⟨x.toNat, by omega⟩
      refine z_aload_n cx dX5_why_21 rfl ?_
      refine g_X5_15 cx fl_X5_28 dX5_why_22 ?_
      refine z_iload_n cx dX5_why_25 rfl ?_
      refine z_iald cx (k) (by omega) (by omega) (co_mrep E _) dX5_why_26 ?_
      refine z_goto cx (tgt := 32) dX5_why_27 ?_
      refine z_iret cx dX5_why_32 ?_
      unfold s_why
      rw [if_pos (by omega)]
      refine ⟨?_, hR, CFx.rf⟩
      rcases h35 with q | ⟨-, q0, q1, q2⟩
      · exfalso; omega
      · dsimp only
        rcases (show k = 0 ∨ k = 1 ∨ k = 2 by omega) with rfl | rfl | rfl
        · rw [if_pos (by decide)]; exact q0
        · rw [if_neg (by decide), if_pos (by decide)]; exact q1
        · rw [if_neg (by decide), if_neg (by decide)]; exact q2
  · skip
    refine z_bipush cx dX5_why_9 ?_
    refine z_goto cx (tgt := 32) dX5_why_11 ?_
    refine z_iret cx dX5_why_32 ?_
    rw [show s_why A x = (-2, A) from by unfold s_why; rw [if_neg (by omega)]]
    exact ⟨rfl, hR, CFx.rf⟩
set_option maxRecDepth 100000 in
set_option maxHeartbeats 4000000 in
theorem c_X5_undo {E : En} {G : Wd} {A : Ast} (hR : MRel G A) (hA : AOk A) : Cti E yX5_undo cX5_undo 1 .int 1 24 [.ref (E.1 6)] G (fun z G' => z = (s_undo A).1 ∧ MRel G' (s_undo A).2 ∧ CFx G G') := by
  have h27 := hR.2.1
  have hl4 := hA.2.1
  refine Cti.mk [some (.ref (E.1 6))] (by decide) rfl (by intro v hv; simp only [List.mem_cons, List.not_mem_nil, or_false] at hv; subst hv; rfl) (Nat.le_of_ble_eq_true rfl) ?_
  intro p l e s m args below meth c cx
  refine z_aload_n cx dX5_undo_0 rfl ?_
  refine g_X5_4 cx fl_X5_35 dX5_undo_1 ?_
  refine z_if_ne cx (tgt := 10) dX5_undo_4 (fun h4 => ?_) (fun h4 => ?_)
  · skip
    refine z_aload_n cx dX5_undo_10 rfl ?_
    refine z_dup cx dX5_undo_11 ?_
    refine g_X5_4 cx fl_X5_35 dX5_undo_12 ?_
    refine z_iconst cx dX5_undo_15 ?_
    refine z_isub cx dX5_undo_16 ?_
    refine p_X5_4 cx fl_X5_35 dX5_undo_17 ?_
    refine z_aload_n cx dX5_undo_20 rfl ?_
    refine g_X5_3 cx fl_X5_19 dX5_undo_21 ?_
    refine z_sipush cx dX5_undo_24 ?_
    refine z_aload_n cx dX5_undo_27 rfl ?_
    refine g_X5_4 cx fl_X5_35 dX5_undo_28 ?_
    refine z_imul cx dX5_undo_31 ?_
    refine z_aload_n cx dX5_undo_32 rfl ?_
    refine g_X5_0 cx fl_X5_7 dX5_undo_33 ?_
    refine z_iconst cx dX5_undo_36 ?_
    refine z_sv cx (c_X5_copies (c0 := 10) (c1 := 7) (n0 := 3520) (n1 := 880) (f0 := 23) (f1 := 20) (880 * (A.2.1.length - 1)) 0 (by rw [gup_s]; omega) rfl (by omega) rfl (co_past E) (co_s E)) rfl ms_X5_copies ml_X5_31 dX5_undo_37 (fun G37 hz37 => ?_)
    subst hz37
    refine z_aload_n cx dX5_undo_40 rfl ?_
    refine g_X5_4 cx fl_X5_35 dX5_undo_41 ?_
    refine z_iret cx dX5_undo_44 ?_
    rw [show s_undo A = ((A.2.1.length : Int) - 1, (A.2.1.getD 0 dF, A.2.1.tail, A.2.2)) from by unfold s_undo; rw [if_neg (by omega)]]
    refine ⟨by rw [gcp_eq, if_neg (by omega), gup_s, h27], mundo_rel hR hA (by omega) (by rw [gcp_eq, if_neg (by omega), gup_s, h27]) (fun j hj => ?_) (fun f a i h1 h2 => ?_)⟩
    · rw [gcp_eq, if_pos ⟨rfl, rfl, by omega, by omega⟩, gup_f _ _ _ _ _ _ _ (by decide), show j - 0 = j by omega]
    · rw [gcp_eq, if_neg (by omega), gup_f _ _ _ _ _ _ _ h2]
  · skip
    refine z_bipush cx dX5_undo_7 ?_
    refine z_iret cx dX5_undo_9 ?_
    rw [show s_undo A = (-6, A) from by unfold s_undo; rw [if_pos (by omega)]]
    exact ⟨rfl, hR, CFx.rf⟩
set_option maxRecDepth 100000 in
set_option maxHeartbeats 4000000 in
theorem c_X5_remove {E : En} {G : Wd} {A : Ast} (hR : MRel G A) (hA : AOk A) {x : Int} (hx : -2147483648 ≤ x ∧ x < 2147483648) : Cti E yX5_remove cX5_remove 2 .int 3 68 [.ref (E.1 6), .int (iN (x))] G (fun z G' => z = (s_remove A x).1 ∧ MRel G' (s_remove A x).2 ∧ CFx G G') := by
  have hM := hR.1
  have hO := hA.1
  obtain ⟨m0, mV, m7, mC, mS⟩ := id hM
  obtain ⟨hOv, hOc, hOs⟩ := id hO
  have hl20 := hOs.1
  have hl12 := hOc.1
  obtain ⟨hv0, hv1, hv2, hv3, hv4, hv5⟩ := id hOv
  have v0 : G 20 0 1 = A.1.1 0 := mV 0 (by omega)
  have v1 : G 20 0 2 = A.1.1 1 := mV 1 (by omega)
  have v2 : G 20 0 3 = A.1.1 2 := mV 2 (by omega)
  have v3 : G 20 0 4 = A.1.1 3 := mV 3 (by omega)
  have v4 : G 20 0 5 = A.1.1 4 := mV 4 (by omega)
  have v5 : G 20 0 6 = A.1.1 5 := mV 5 (by omega)
  refine Cti.mk [some (.ref (E.1 6)), some (.int (iN (x)))] (by decide) rfl (by intro v hv; simp only [List.mem_cons, List.not_mem_nil, or_false] at hv; rcases hv with rfl | rfl <;> rfl) (Nat.le_of_ble_eq_true rfl) ?_
  intro p l e s m args below meth c cx
  refine z_aload_n cx dX5_remove_0 rfl ?_
  refine z_iload_n cx dX5_remove_1 rfl ?_
  refine z_vi cx (c_X5_isSubtitle (by omega) m0) rfl mv_X5_isSubtitle ml_X5_162 (by omega) (co_mod E _) rfl dX5_remove_2 (fun z2 G2 hz2 => ?_)
  obtain ⟨eG, hz2⟩ := hz2
  have eG := eG.symm
  subst eG
  refine z_if_ne cx (tgt := 10) dX5_remove_5 (fun h5 => ?_) (fun h5 => ?_)
  · skip
    obtain ⟨k, rfl⟩ : ∃ k : Nat, x = k := ⟨x.toNat, by omega⟩
    refine z_aload_n cx dX5_remove_10 rfl ?_
    refine z_vv cx (c_X5_begins) rfl mv_X5_begins ml_X5_147 (by omega) (co_mod E _) rfl dX5_remove_11 (fun G11 hz11 => ?_)
    obtain ⟨hMid, hBc, hBs⟩ := begins_mid hR hA hz11
    have bM := hMid.1
    refine z_aload_n cx dX5_remove_14 rfl ?_
    refine z_iload_n cx dX5_remove_15 rfl ?_
    refine z_vv cx (c_X5_closes k A.1.2.2.length rfl bM.1 (by omega)) rfl mv_X5_closes ml_X5_165 (by omega) (co_mod E _) rfl dX5_remove_16 (fun G16 hz16 => ?_)
    refine z_aload_n cx dX5_remove_19 rfl ?_
    refine z_aload_n cx dX5_remove_20 rfl ?_
    refine g_X5_0 cx fl_X5_7 dX5_remove_21 ?_
    refine z_iconst cx dX5_remove_24 ?_
    refine z_iald cx (0) (by omega) (by omega) (co_s E _) dX5_remove_25 ?_
    rw [hz16.2.1]
    refine z_vi cx (c_X5_records (hMid.fr hz16.1 (hz16.film bM hO (by omega))) hA) rfl mv_X5_records ml_X5_159 (by omega) (co_mod E _) rfl dX5_remove_26 (fun z26 G26 hz26 => ?_)
    obtain ⟨rfl, hrmhz26, hrchz26⟩ := hz26
    refine z_iret cx dX5_remove_29 ?_
    rw [show s_remove A (k : Int) = ((A.1.2.2.length : Int) - 1, act A (A.1.1, A.1.2.1, A.1.2.2.eraseIdx k)) from by unfold s_remove; rw [if_pos (by omega), Int.toNat_natCast]]
    exact ⟨rfl, hrmhz26, hBc.tr (hz16.1.cfx.tr hrchz26)⟩
  · skip
    refine z_iconst cx dX5_remove_8 ?_
    refine z_iret cx dX5_remove_9 ?_
    rw [show s_remove A x = (-1, A) from by unfold s_remove; rw [if_neg (by omega)]]
    exact ⟨rfl, hR, CFx.rf⟩
set_option maxRecDepth 100000 in
set_option maxHeartbeats 4000000 in
theorem c_X5_canShift {E : En} {G : Wd} {F : Fm} {f : Int} (hM : MFilm (G 20 0) F) (hO : FOk F) {x : Int} {i : Nat} (hx : x = (i : Int)) (hi : i < F.2.2.length) (hf : -999 ≤ f ∧ f ≤ 999) : Cti E yX5_canShift cX5_canShift 4 .boolean 1 22 [.ref (E.1 6), .int (iN (x)), .int (iN (f))] G (fun z G' => G' = G ∧ (z = 1 ∧ ¬ ((F.2.2.getD i dS).1 + f < (if 0 < i then (F.2.2.getD (i - 1) dS).2.1 else 0) ∨ 5000 < (F.2.2.getD (F.2.2.length - 1) dS).2.1 + f) ∨ z = 0 ∧ ((F.2.2.getD i dS).1 + f < (if 0 < i then (F.2.2.getD (i - 1) dS).2.1 else 0) ∨ 5000 < (F.2.2.getD (F.2.2.length - 1) dS).2.1 + f))) := by
  obtain ⟨m0, mV, m7, mC, mS⟩ := id hM
  obtain ⟨hOv, hOc, hOs⟩ := id hO
  have hl20 := hOs.1
  have hl12 := hOc.1
  obtain ⟨hv0, hv1, hv2, hv3, hv4, hv5⟩ := id hOv
  have v0 : G 20 0 1 = F.1 0 := mV 0 (by omega)
  have v1 : G 20 0 2 = F.1 1 := mV 1 (by omega)
  have v2 : G 20 0 3 = F.1 2 := mV 2 (by omega)
  have v3 : G 20 0 4 = F.1 3 := mV 3 (by omega)
  have v4 : G 20 0 5 = F.1 4 := mV 4 (by omega)
  have v5 : G 20 0 6 = F.1 5 := mV 5 (by omega)
  have hs_ := mS (i) (by omega)
  have ho := hOs.2.1 (i) (by omega)
  have t0 := hs_.1
  have t1 := hs_.2.1
  have t2 := hs_.2.2.1
  have t3 := hs_.2.2.2
  have o1 := ho.1
  have o2 := ho.2.1
  have o3 := ho.2.2.1
  have o4 := ho.2.2.2.1
  have o5 := ho.2.2.2.2.1
  have hsz_ := mS (F.2.2.length - 1) (by omega)
  have hoz := hOs.2.1 (F.2.2.length - 1) (by omega)
  have t0z := hsz_.1
  have t1z := hsz_.2.1
  have t2z := hsz_.2.2.1
  have t3z := hsz_.2.2.2
  have o1z := hoz.1
  have o2z := hoz.2.1
  have o3z := hoz.2.2.1
  have o4z := hoz.2.2.2.1
  have o5z := hoz.2.2.2.2.1
  obtain ⟨pe, hpe, hpe2⟩ : ∃ q : Int, q = (if 0 < i then (F.2.2.getD (i - 1) dS).2.1 else 0) ∧ ((i = 0 ∧ q = 0) ∨ (0 < i ∧ q = G 20 0 (20 + 43 * (i - 1) + 1) ∧ 0 ≤ q ∧ q ≤ 5000)) := by
    by_cases w : 0 < i
    · have q1 := (mS (i - 1) (by omega)).2.1
      have q2 := hOs.2.1 (i - 1) (by omega)
      have q3 := q2.1
      have q4 := q2.2.1
      have q5 := q2.2.2.1
      exact ⟨_, rfl, Or.inr ⟨w, by rw [if_pos w]; exact q1.symm, by rw [if_pos w]; omega, by rw [if_pos w]; omega⟩⟩
    · exact ⟨_, rfl, Or.inl ⟨by omega, if_neg w⟩⟩
  rw [← hpe]
  refine Cti.mk [some (.ref (E.1 6)), some (.int (iN (x))), some (.int (iN (f))), none] (by decide) rfl (by intro v hv; simp only [List.mem_cons, List.not_mem_nil, or_false] at hv; rcases hv with rfl | rfl | rfl <;> rfl) (Nat.le_of_ble_eq_true rfl) ?_
  intro p l e s m args below meth c cx
  refine z_aload_n cx dX5_canShift_0 rfl ?_
  refine z_iload_n cx dX5_canShift_1 rfl ?_
  refine z_iconst cx dX5_canShift_2 ?_
  refine z_vi cx (c_X5_of (20 + 43 * i) (by omega) (by omega)) rfl mv_X5_of ml_X5_43 (by omega) (co_mod E _) rfl dX5_canShift_3 (fun z3 G3 hz3 => ?_)
  obtain ⟨eG, rfl⟩ := hz3
  have eG := eG.symm
  subst eG
  refine z_iload_n cx dX5_canShift_6 rfl ?_
  refine z_iadd cx dX5_canShift_7 ?_
  refine z_istore_n cx dX5_canShift_8 ?_
  refine z_iload_n cx dX5_canShift_9 rfl ?_
  refine z_if_lt cx (tgt := 54) dX5_canShift_10 (fun h10 => ?_) (fun h10 => ?_)
  · skip
    refine z_iconst cx dX5_canShift_54 ?_
    refine z_zret cx dX5_canShift_55 ?_
    exact ⟨rfl, by omega⟩
  · skip
    refine z_iload_n cx dX5_canShift_13 rfl ?_
    refine z_if_eq cx (tgt := 29) dX5_canShift_14 (fun h14 => ?_) (fun h14 => ?_)
    · skip
      refine z_aload_n cx dX5_canShift_29 rfl ?_
      refine z_aload_n cx dX5_canShift_30 rfl ?_
      refine g_X5_0 cx fl_X5_7 dX5_canShift_31 ?_
      refine z_iconst cx dX5_canShift_34 ?_
      refine z_iald cx (0) (by omega) (by omega) (co_s E _) dX5_canShift_35 ?_
      refine z_iconst cx dX5_canShift_36 ?_
      refine z_isub cx dX5_canShift_37 ?_
      refine z_iconst cx dX5_canShift_38 ?_
      refine z_vi cx (c_X5_of (20 + 43 * (F.2.2.length - 1) + 1) (by omega) (by omega)) rfl mv_X5_of ml_X5_43 (by omega) (co_mod E _) rfl dX5_canShift_39 (fun z39 G39 hz39 => ?_)
      obtain ⟨eG, rfl⟩ := hz39
      have eG := eG.symm
      subst eG
      refine z_iload_n cx dX5_canShift_42 rfl ?_
      refine z_iadd cx dX5_canShift_43 ?_
      refine z_sipush cx dX5_canShift_44 ?_
      refine z_icmp_gt cx (tgt := 54) dX5_canShift_47 (fun h47 => ?_) (fun h47 => ?_)
      · skip
        refine z_iconst cx dX5_canShift_54 ?_
        refine z_zret cx dX5_canShift_55 ?_
        exact ⟨rfl, by omega⟩
      · skip
        refine z_iconst cx dX5_canShift_50 ?_
        refine z_goto cx (tgt := 55) dX5_canShift_51 ?_
        refine z_zret cx dX5_canShift_55 ?_
        exact ⟨rfl, by omega⟩
    · skip
      refine z_iload_n cx dX5_canShift_17 rfl ?_
      refine z_aload_n cx dX5_canShift_18 rfl ?_
      refine z_iload_n cx dX5_canShift_19 rfl ?_
      refine z_iconst cx dX5_canShift_20 ?_
      refine z_isub cx dX5_canShift_21 ?_
      refine z_iconst cx dX5_canShift_22 ?_
      refine z_vi cx (c_X5_of (20 + 43 * (i - 1) + 1) (by omega) (by omega)) rfl mv_X5_of ml_X5_43 (by omega) (co_mod E _) rfl dX5_canShift_23 (fun z23 G23 hz23 => ?_)
      obtain ⟨eG, rfl⟩ := hz23
      have eG := eG.symm
      subst eG
      refine z_icmp_lt cx (tgt := 54) dX5_canShift_26 (fun h26 => ?_) (fun h26 => ?_)
      · skip
        refine z_iconst cx dX5_canShift_54 ?_
        refine z_zret cx dX5_canShift_55 ?_
        exact ⟨rfl, by omega⟩
      · skip
        refine z_aload_n cx dX5_canShift_29 rfl ?_
        refine z_aload_n cx dX5_canShift_30 rfl ?_
        refine g_X5_0 cx fl_X5_7 dX5_canShift_31 ?_
        refine z_iconst cx dX5_canShift_34 ?_
        refine z_iald cx (0) (by omega) (by omega) (co_s E _) dX5_canShift_35 ?_
        refine z_iconst cx dX5_canShift_36 ?_
        refine z_isub cx dX5_canShift_37 ?_
        refine z_iconst cx dX5_canShift_38 ?_
        refine z_vi cx (c_X5_of (20 + 43 * (F.2.2.length - 1) + 1) (by omega) (by omega)) rfl mv_X5_of ml_X5_43 (by omega) (co_mod E _) rfl dX5_canShift_39 (fun z39 G39 hz39 => ?_)
        obtain ⟨eG, rfl⟩ := hz39
        have eG := eG.symm
        subst eG
        refine z_iload_n cx dX5_canShift_42 rfl ?_
        refine z_iadd cx dX5_canShift_43 ?_
        refine z_sipush cx dX5_canShift_44 ?_
        refine z_icmp_gt cx (tgt := 54) dX5_canShift_47 (fun h47 => ?_) (fun h47 => ?_)
        · skip
          refine z_iconst cx dX5_canShift_54 ?_
          refine z_zret cx dX5_canShift_55 ?_
          exact ⟨rfl, by omega⟩
        · skip
          refine z_iconst cx dX5_canShift_50 ?_
          refine z_goto cx (tgt := 55) dX5_canShift_51 ?_
          refine z_zret cx dX5_canShift_55 ?_
          exact ⟨rfl, by omega⟩
set_option maxRecDepth 100000 in
set_option maxHeartbeats 4000000 in
theorem c_X5_shift {E : En} {G : Wd} {A : Ast} (hR : MRel G A) (hA : AOk A) {x y : Int} (hx : -2147483648 ≤ x ∧ x < 2147483648) (hy : -2147483648 ≤ y ∧ y < 2147483648) : Cti E yX5_shift cX5_shift 4 .int 2 46 [.ref (E.1 6), .int (iN (x)), .int (iN (y))] G (fun z G' => z = (s_shift A x y).1 ∧ MRel G' (s_shift A x y).2 ∧ CFx G G') := by
  have hM := hR.1
  have hO := hA.1
  obtain ⟨m0, mV, m7, mC, mS⟩ := id hM
  obtain ⟨hOv, hOc, hOs⟩ := id hO
  have hl20 := hOs.1
  have hl12 := hOc.1
  obtain ⟨hv0, hv1, hv2, hv3, hv4, hv5⟩ := id hOv
  have v0 : G 20 0 1 = A.1.1 0 := mV 0 (by omega)
  have v1 : G 20 0 2 = A.1.1 1 := mV 1 (by omega)
  have v2 : G 20 0 3 = A.1.1 2 := mV 2 (by omega)
  have v3 : G 20 0 4 = A.1.1 3 := mV 3 (by omega)
  have v4 : G 20 0 5 = A.1.1 4 := mV 4 (by omega)
  have v5 : G 20 0 6 = A.1.1 5 := mV 5 (by omega)
  refine Cti.mk [some (.ref (E.1 6)), some (.int (iN (x))), some (.int (iN (y))), none] (by decide) rfl (by intro v hv; simp only [List.mem_cons, List.not_mem_nil, or_false] at hv; rcases hv with rfl | rfl | rfl <;> rfl) (Nat.le_of_ble_eq_true rfl) ?_
  intro p l e s m args below meth c cx
  have L44 : ∀ (n : Nat) (k i : Nat) (kk : Int) (GB G1 : Wd), (60 - k) < n → (kk = (k : Int)) → (i ≤ k ∧ k ≤ A.1.2.2.length ∧ i < A.1.2.2.length) → (x = (i : Int)) → (s_shift A x y = ((A.1.2.2.length : Int) - i, act A (A.1.1, A.1.2.1, shL A.1.2.2 i y))) → (-999 ≤ y ∧ y ≤ 999) → (MMid GB A A.1) → (CFx G GB) → (∀ j, i ≤ j → j < k → G1 20 0 (20 + 43 * j) = GB 20 0 (20 + 43 * j) + y ∧ G1 20 0 (20 + 43 * j + 1) = GB 20 0 (20 + 43 * j + 1) + y) → (∀ q, (∀ j, i ≤ j → j < k → q ≠ 20 + 43 * j ∧ q ≠ 20 + 43 * j + 1) → G1 20 0 q = GB 20 0 q) → (FrM GB G1) → Z p l e (zr 2 46) s m args below meth c 4 0 0 E (Qi_ E below args s (fun z G' => z = (s_shift A x y).1 ∧ MRel G' (s_shift A x y).2 ∧ CFx G G')) G1 44 [some (.ref (E.1 6)), some (.int (iN (x))), some (.int (iN (y))), some (.int (iN (kk)))] [] := by
    intro n
    induction n with
    | zero =>
      intro k i kk GB G1 hmu
      exact absurd hmu (Nat.not_lt_zero _)
    | succ n ih =>
      intro k i kk GB G1 hmu hkk hki hxi hsp hyy hMid hBc hsh hk hf
      have g0 : G1 20 0 0 = (A.1.2.2.length : Int) := (hk 0 (fun j _ _ => by omega)).trans hMid.1.1
      refine z_iload_n cx dX5_shift_44 rfl ?_
      refine z_aload_n cx dX5_shift_45 rfl ?_
      refine g_X5_0 cx fl_X5_7 dX5_shift_46 ?_
      refine z_iconst cx dX5_shift_49 ?_
      refine z_iald cx (0) (by omega) (by omega) (co_s E _) dX5_shift_50 ?_
      refine z_icmp_ge cx (tgt := 88) dX5_shift_51 (fun h51 => ?_) (fun h51 => ?_)
      · skip
        refine z_aload_n cx dX5_shift_88 rfl ?_
        refine z_aload_n cx dX5_shift_89 rfl ?_
        refine g_X5_0 cx fl_X5_7 dX5_shift_90 ?_
        refine z_iconst cx dX5_shift_93 ?_
        refine z_iald cx (0) (by omega) (by omega) (co_s E _) dX5_shift_94 ?_
        refine z_iload_n cx dX5_shift_95 rfl ?_
        rw [g0]
        refine z_isub cx dX5_shift_96 ?_
        refine z_vi cx (c_X5_records (F := (A.1.1, A.1.2.1, shL A.1.2.2 i y)) (hMid.fr hf (mshift hMid.1 hO.W (fun j h1 h2 => hsh j h1 (by omega)) (fun q hq => hk q (fun j h1 h2 => hq j h1 (by omega))))) hA) rfl mv_X5_records ml_X5_159 (by omega) (co_mod E _) rfl dX5_shift_97 (fun z97 G97 hz97 => ?_)
        obtain ⟨rfl, hrmhz97, hrchz97⟩ := hz97
        refine z_iret cx dX5_shift_100 ?_
        rw [hsp]
        exact ⟨by dsimp only; omega, hrmhz97, hBc.tr (hf.cfx.tr hrchz97)⟩
      · skip
        refine z_aload_n cx dX5_shift_54 rfl ?_
        refine z_iload_n cx dX5_shift_55 rfl ?_
        refine z_iconst cx dX5_shift_56 ?_
        refine z_aload_n cx dX5_shift_57 rfl ?_
        refine z_iload_n cx dX5_shift_58 rfl ?_
        refine z_iconst cx dX5_shift_59 ?_
        refine z_vi cx (c_X5_of (20 + 43 * k) (by omega) (by omega)) rfl mv_X5_of ml_X5_43 (by omega) (co_mod E _) rfl dX5_shift_60 (fun z60 G60 hz60 => ?_)
        obtain ⟨eG, rfl⟩ := hz60
        have eG := eG.symm
        subst eG
        refine z_iload_n cx dX5_shift_63 rfl ?_
        refine z_iadd cx dX5_shift_64 ?_
        refine z_vv cx (c_X5_lays (20 + 43 * k) (by omega) (by omega)) rfl mv_X5_lays ml_X5_51 (by omega) (co_mod E _) rfl dX5_shift_65 (fun G65 hz65 => ?_)
        subst hz65
        refine z_aload_n cx dX5_shift_68 rfl ?_
        refine z_iload_n cx dX5_shift_69 rfl ?_
        refine z_iconst cx dX5_shift_70 ?_
        refine z_aload_n cx dX5_shift_71 rfl ?_
        refine z_iload_n cx dX5_shift_72 rfl ?_
        refine z_iconst cx dX5_shift_73 ?_
        refine z_vi cx (c_X5_of (20 + 43 * k + 1) (by omega) (by omega)) rfl mv_X5_of ml_X5_43 (by omega) (co_mod E _) rfl dX5_shift_74 (fun z74 G74 hz74 => ?_)
        obtain ⟨eG, rfl⟩ := hz74
        have eG := eG.symm
        subst eG
        refine z_iload_n cx dX5_shift_77 rfl ?_
        refine z_iadd cx dX5_shift_78 ?_
        refine z_vv cx (c_X5_lays (20 + 43 * k + 1) (by omega) (by omega)) rfl mv_X5_lays ml_X5_51 (by omega) (co_mod E _) rfl dX5_shift_79 (fun G79 hz79 => ?_)
        subst hz79
        refine z_iinc cx dX5_shift_82 rfl ?_
        refine z_goto cx (tgt := 44) dX5_shift_85 ?_
        refine Z.locs (ih (k + 1) (i) _ (GB) _ (by omega) (by omega) (by omega) hxi hsp hyy hMid hBc ?_ ?_ hf.up.up) ⟨rfl, rfl, rfl, rfl, trivial⟩
        · intro j h1 h2
          rcases Nat.lt_succ_iff_lt_or_eq.mp h2 with h2 | rfl
          · rw [gup_i _ _ _ _ _ (by omega), gup_i _ _ _ _ _ (by omega), gup_i _ _ _ _ _ (by omega), gup_i _ _ _ _ _ (by omega)]
            exact hsh j h1 h2
          · refine ⟨?_, ?_⟩
            · rw [gup_i _ _ _ _ _ (by omega), gup_s, hk _ (fun j2 _ _ => by omega)]
            · rw [gup_s, gup_i _ _ _ _ _ (by omega), hk _ (fun j2 _ _ => by omega)]
        · intro q hq
          have q1 := hq k hki.1 (Nat.lt_succ_self _)
          rw [gup_i _ _ _ _ _ q1.2, gup_i _ _ _ _ _ q1.1]
          exact hk q (fun j h1 h2 => hq j h1 (by omega))
  refine z_aload_n cx dX5_shift_0 rfl ?_
  refine z_iload_n cx dX5_shift_1 rfl ?_
  refine z_vi cx (c_X5_isSubtitle (by omega) m0) rfl mv_X5_isSubtitle ml_X5_162 (by omega) (co_mod E _) rfl dX5_shift_2 (fun z2 G2 hz2 => ?_)
  obtain ⟨eG, hz2⟩ := hz2
  have eG := eG.symm
  subst eG
  refine z_if_ne cx (tgt := 10) dX5_shift_5 (fun h5 => ?_) (fun h5 => ?_)
  · skip
    obtain ⟨i0, hxi⟩ : ∃ k : Nat, x = k := ⟨x.toNat, by omega⟩
    refine z_iload_n cx dX5_shift_10 rfl ?_
    refine z_sipush cx dX5_shift_11 ?_
    refine z_sipush cx dX5_shift_14 ?_
    refine z_si cx (c_X5_in (by omega)) rfl ms_X5_in ml_X5_39 dX5_shift_17 (fun z17 G17 hz17 => ?_)
    obtain ⟨eG, hz17⟩ := hz17
    have eG := eG.symm
    subst eG
    refine z_if_ne cx (tgt := 26) dX5_shift_20 (fun h20 => ?_) (fun h20 => ?_)
    · skip
      refine z_aload_n cx dX5_shift_26 rfl ?_
      refine z_iload_n cx dX5_shift_27 rfl ?_
      refine z_iload_n cx dX5_shift_28 rfl ?_
      refine z_vi cx (c_X5_canShift hM hO hxi (by omega) (by omega)) rfl mv_X5_canShift ml_X5_168 (by omega) (co_mod E _) rfl dX5_shift_29 (fun z29 G29 hz29 => ?_)
      obtain ⟨eG, hz29⟩ := hz29
      have eG := eG.symm
      subst eG
      refine z_if_ne cx (tgt := 38) dX5_shift_32 (fun h32 => ?_) (fun h32 => ?_)
      · skip
        refine z_aload_n cx dX5_shift_38 rfl ?_
        refine z_vv cx (c_X5_begins) rfl mv_X5_begins ml_X5_147 (by omega) (co_mod E _) rfl dX5_shift_39 (fun G39 hz39 => ?_)
        obtain ⟨hMid, hBc, hBs⟩ := begins_mid hR hA hz39
        have bM := hMid.1
        refine z_iload_n cx dX5_shift_42 rfl ?_
        refine z_istore_n cx dX5_shift_43 ?_
        refine Z.locs (L44 _ (i0) (i0) _ _ _ (Nat.lt_succ_self _) hxi (by omega) hxi (by unfold s_shift; rw [if_pos (by omega), if_pos (by omega), hxi, Int.toNat_natCast, if_neg (by omega)]) (by omega) hMid hBc (fun j h1 h2 => by omega) (fun q _ => rfl) FrM.rf) ⟨rfl, rfl, rfl, rfl, trivial⟩
      · skip
        refine z_bipush cx dX5_shift_35 ?_
        refine z_iret cx dX5_shift_37 ?_
        rw [show s_shift A x y = (-5, A) from by unfold s_shift; rw [if_pos (by omega), if_pos (by omega), hxi, Int.toNat_natCast, if_pos (by omega)]]
        exact ⟨rfl, hR, CFx.rf⟩
    · skip
      refine z_bipush cx dX5_shift_23 ?_
      refine z_iret cx dX5_shift_25 ?_
      rw [show s_shift A x y = (-2, A) from by unfold s_shift; rw [if_pos (by omega), if_neg (by omega)]]
      exact ⟨rfl, hR, CFx.rf⟩
  · skip
    refine z_iconst cx dX5_shift_8 ?_
    refine z_iret cx dX5_shift_9 ?_
    rw [show s_shift A x y = (-1, A) from by unfold s_shift; rw [if_neg (by omega)]]
    exact ⟨rfl, hR, CFx.rf⟩
set_option maxRecDepth 100000 in
set_option maxHeartbeats 4000000 in
theorem c_X5_seat {E : En} {G : Wd} {A : Ast} (hR : MRel G A) (hA : AOk A) : Cti E yX5_seat cX5_seat 1 .int 4 94 [.ref (E.1 6)] G (fun z G' => z = (s_seat A).1 ∧ MRel G' (s_seat A).2 ∧ CFx G G') := by
  have hM := hR.1
  have hO := hA.1
  obtain ⟨m0, mV, m7, mC, mS⟩ := id hM
  obtain ⟨hOv, hOc, hOs⟩ := id hO
  have hl20 := hOs.1
  have hl12 := hOc.1
  obtain ⟨hv0, hv1, hv2, hv3, hv4, hv5⟩ := id hOv
  have v0 : G 20 0 1 = A.1.1 0 := mV 0 (by omega)
  have v1 : G 20 0 2 = A.1.1 1 := mV 1 (by omega)
  have v2 : G 20 0 3 = A.1.1 2 := mV 2 (by omega)
  have v3 : G 20 0 4 = A.1.1 3 := mV 3 (by omega)
  have v4 : G 20 0 5 = A.1.1 4 := mV 4 (by omega)
  have v5 : G 20 0 6 = A.1.1 5 := mV 5 (by omega)
  refine Cti.mk [some (.ref (E.1 6))] (by decide) rfl (by intro v hv; simp only [List.mem_cons, List.not_mem_nil, or_false] at hv; subst hv; rfl) (Nat.le_of_ble_eq_true rfl) ?_
  intro p l e s m args below meth c cx
  refine z_aload_n cx dX5_seat_0 rfl ?_
  refine z_vv cx (c_X5_begins) rfl mv_X5_begins ml_X5_147 (by omega) (co_mod E _) rfl dX5_seat_1 (fun G1 hz1 => ?_)
  obtain ⟨hMid, hBc, hBs⟩ := begins_mid hR hA hz1
  have bM := hMid.1
  refine z_aload_n cx dX5_seat_4 rfl ?_
  refine z_aload_n cx dX5_seat_5 rfl ?_
  refine z_vi cx (c_X5_seatsAll bM hO) rfl mv_X5_seatsAll ml_X5_180 (by omega) (co_mod E _) rfl dX5_seat_6 (fun z6 G6 hz6 => ?_)
  obtain ⟨hz6v, hz6⟩ := hz6
  subst hz6v
  refine z_vi cx (c_X5_records (hMid.fr hz6.2 hz6.1) hA) rfl mv_X5_records ml_X5_159 (by omega) (co_mod E _) rfl dX5_seat_9 (fun z9 G9 hz9 => ?_)
  obtain ⟨rfl, hrmhz9, hrchz9⟩ := hz9
  refine z_iret cx dX5_seat_12 ?_
  exact ⟨rfl, hrmhz9, hBc.tr (hz6.2.cfx.tr hrchz9)⟩
