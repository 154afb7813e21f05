set_option maxRecDepth 100000 in
set_option maxHeartbeats 4000000 in
theorem c_X4_append {E : En} {G : Wd} {A : Ast} (hC : CRel G A) (hA : AOk A) {x : Int} (hx : -2147483648 ≤ x ∧ x < 2147483648) : Cti E yX4_append cX4_append 2 .int 0 0 [.ref (E.1 0), .int (iN x)] G (fun z G' => z = (s_append A x).1 ∧ CRel G' (s_append A x).2 ∧ MFx G G') := by
  obtain ⟨hF, hRw, ⟨la, hla3, hla, hct, hH⟩, hSc, hr0, hr1, hr2⟩ := id hC
  obtain ⟨hO, hh4, hhO, hScO, hRp⟩ := id hA
  obtain ⟨hR, hV, hcc, hcu, hn, hs⟩ := id hF
  obtain ⟨hOv, hOc, hOs⟩ := id hO
  have hl20 := hOs.1
  have hl12 := hOc.1
  obtain ⟨hv0, hv1, hv2, hv3, hv4, hv5⟩ := id hOv
  have w0 := hV 0 (by omega)
  have w1 := hV 1 (by omega)
  have w2 := hV 2 (by omega)
  have w3 := hV 3 (by omega)
  have w4 := hV 4 (by omega)
  have w5 := hV 5 (by omega)
  have hh := And.intro (recH_ok hA).1 (fun k hk => ((recH_ok hA).2 k hk).2.2.1)
  have hs12 := hSc.1
  have hs80 := hScO.1
  refine Cti.mk [some (.ref (E.1 0)), some (.int (iN x))] (by decide) rfl (by intro v hv; simp only [List.mem_cons, List.not_mem_nil, or_false] at hv; rcases hv with rfl | rfl <;> rfl) (Nat.le_of_ble_eq_true rfl) ?_
  intro p l e s m args below meth c cx
  refine z_iload_n cx dX4_append_0 rfl ?_
  refine z_bipush cx dX4_append_1 ?_
  refine z_icmp_lt cx (tgt := 12) dX4_append_3 (fun h3 => ?_) (fun h3 => ?_)
  · skip
    refine z_bipush cx dX4_append_12 ?_
    refine z_iret cx dX4_append_14 ?_
    rw [show s_append A x = (-2, A) from by unfold s_append; rw [if_neg (by omega)]]
    exact ⟨rfl, hC, MFx.rf⟩
  · skip
    refine z_iload_n cx dX4_append_6 rfl ?_
    refine z_bipush cx dX4_append_7 ?_
    refine z_icmp_le cx (tgt := 15) dX4_append_9 (fun h9 => ?_) (fun h9 => ?_)
    · skip
      skip
      refine z_aload_n cx dX4_append_15 rfl ?_
      refine g_X4_3 cx fl_X4_29 dX4_append_16 ?_
      refine g_X2_1 cx fl_X4_37 dX4_append_19 ?_
      refine z_bipush cx dX4_append_22 ?_
      refine z_icmp_lt cx (tgt := 30) dX4_append_24 (fun h24 => ?_) (fun h24 => ?_)
      · skip
        refine z_aload_n cx dX4_append_30 rfl ?_
        refine g_X4_3 cx fl_X4_29 dX4_append_31 ?_
        refine g_X2_0 cx fl_X4_41 dX4_append_34 ?_
        refine z_aload_n cx dX4_append_37 rfl ?_
        refine g_X4_3 cx fl_X4_29 dX4_append_38 ?_
        refine g_X2_1 cx fl_X4_37 dX4_append_41 ?_
        refine z_iload_n cx dX4_append_44 rfl ?_
        refine z_i2c cx dX4_append_45 ?_
        skip
        refine z_cast cx (A.2.2.1.length) (by omega) (by omega) rfl (fun G => co_chars E G) dX4_append_46 ?_
        refine z_aload_n cx dX4_append_47 rfl ?_
        refine g_X4_3 cx fl_X4_29 dX4_append_48 ?_
        refine z_dup cx dX4_append_51 ?_
        refine g_X2_1 cx fl_X4_37 dX4_append_52 ?_
        refine z_iconst cx dX4_append_55 ?_
        refine z_iadd cx dX4_append_56 ?_
        refine p_X2_1 cx fl_X4_37 dX4_append_57 ?_
        refine z_aload_n cx dX4_append_60 rfl ?_
        refine g_X4_3 cx fl_X4_29 dX4_append_61 ?_
        refine g_X2_1 cx fl_X4_37 dX4_append_64 ?_
        refine z_iret cx dX4_append_67 ?_
        rw [show s_append A x = ((A.2.2.1.length : Int) + 1, (A.1, A.2.1, A.2.2.1 ++ [x], A.2.2.2)) from by unfold s_append; rw [if_pos (by omega), if_pos (by omega)]]
        refine ⟨?_, ⟨?_, ?_, ⟨la, hla3, ?_, ?_, ?_⟩, ⟨?_, ?_⟩, ?_, ?_, ?_⟩, ?_⟩
        · rw [gup_s, gup_f _ _ _ _ _ _ _ (by decide), hs12]
        · exact hF.same hl20 (fun f a i hq => by rw [gup_f _ _ _ _ _ _ _ (by unfold inF at hq; omega), gup_f _ _ _ _ _ _ _ (by unfold inF at hq; omega)])
        · exact fun q hq => (hRw q hq).same (fun i => by rw [gup_f _ _ _ _ _ _ _ (by decide), gup_f _ _ _ _ _ _ _ (by decide)])
        · rw [gup_f _ _ _ _ _ _ _ (by decide), gup_f _ _ _ _ _ _ _ (by decide)]; exact hla
        · rw [gup_f _ _ _ _ _ _ _ (by decide), gup_f _ _ _ _ _ _ _ (by decide)]; exact hct
        · exact fun k hk => (hH k hk).same (hhO k hk).2.2.1 (fun f a i hq => by rw [gup_f _ _ _ _ _ _ _ (by unfold inF at hq; omega), gup_f _ _ _ _ _ _ _ (by unfold inF at hq; omega)])
        · rw [gup_s, gup_f _ _ _ _ _ _ _ (by decide), hs12]
          dsimp only
          rw [List.length_append]
          rfl
        · intro i hi
          dsimp only at hi ⊢
          rw [List.length_append] at hi
          simp only [List.length_cons, List.length_nil] at hi
          rw [gup_f _ _ _ _ _ _ _ (by decide)]
          by_cases w : i < A.2.2.1.length
          · rw [gup_i _ _ _ _ _ (by omega), appL_l w]
            exact hSc.2 i w
          · have w2 : i = A.2.2.1.length := by omega
            subst w2
            rw [gup_s, appL_r (Nat.le_refl _), Nat.sub_self]
            rfl
        · rw [gup_f _ _ _ _ _ _ _ (by decide), gup_f _ _ _ _ _ _ _ (by decide)]; exact hr0
        · rw [gup_f _ _ _ _ _ _ _ (by decide), gup_f _ _ _ _ _ _ _ (by decide)]; exact hr1
        · rw [gup_f _ _ _ _ _ _ _ (by decide), gup_f _ _ _ _ _ _ _ (by decide)]; exact hr2
        · exact fun f a i hq => by rw [gup_f _ _ _ _ _ _ _ (by omega), gup_f _ _ _ _ _ _ _ (by omega)]
      · skip
        refine z_bipush cx dX4_append_27 ?_
        refine z_iret cx dX4_append_29 ?_
        rw [show s_append A x = (-4, A) from by unfold s_append; rw [if_pos (by omega), if_neg (by omega)]]
        exact ⟨rfl, hC, MFx.rf⟩
    · skip
      refine z_bipush cx dX4_append_12 ?_
      refine z_iret cx dX4_append_14 ?_
      rw [show s_append A x = (-2, A) from by unfold s_append; rw [if_neg (by omega)]]
      exact ⟨rfl, hC, MFx.rf⟩
set_option maxRecDepth 100000 in
set_option maxHeartbeats 4000000 in
theorem c_X4_clearScript {E : En} {G : Wd} {A : Ast} (hC : CRel G A) (hA : AOk A) : Cti E yX4_clearScript cX4_clearScript 2 .int 0 0 [.ref (E.1 0)] G (fun z G' => z = (s_clear A).1 ∧ CRel G' (s_clear A).2 ∧ MFx G G') := by
  obtain ⟨hF, hRw, ⟨la, hla3, hla, hct, hH⟩, hSc, hr0, hr1, hr2⟩ := id hC
  obtain ⟨hO, hh4, hhO, hScO, hRp⟩ := id hA
  obtain ⟨hR, hV, hcc, hcu, hn, hs⟩ := id hF
  obtain ⟨hOv, hOc, hOs⟩ := id hO
  have hl20 := hOs.1
  have hl12 := hOc.1
  obtain ⟨hv0, hv1, hv2, hv3, hv4, hv5⟩ := id hOv
  have w0 := hV 0 (by omega)
  have w1 := hV 1 (by omega)
  have w2 := hV 2 (by omega)
  have w3 := hV 3 (by omega)
  have w4 := hV 4 (by omega)
  have w5 := hV 5 (by omega)
  have hh := And.intro (recH_ok hA).1 (fun k hk => ((recH_ok hA).2 k hk).2.2.1)
  have hs12 := hSc.1
  refine Cti.mk [some (.ref (E.1 0)), none] (by decide) rfl (by intro v hv; simp only [List.mem_cons, List.not_mem_nil, or_false] at hv; subst hv; rfl) (Nat.le_of_ble_eq_true rfl) ?_
  intro p l e s m args below meth c cx
  refine z_aload_n cx dX4_clearScript_0 rfl ?_
  refine g_X4_3 cx fl_X4_29 dX4_clearScript_1 ?_
  refine g_X2_1 cx fl_X4_37 dX4_clearScript_4 ?_
  refine z_istore_n cx dX4_clearScript_7 ?_
  refine z_aload_n cx dX4_clearScript_8 rfl ?_
  refine g_X4_3 cx fl_X4_29 dX4_clearScript_9 ?_
  refine z_iconst cx dX4_clearScript_12 ?_
  refine p_X2_1 cx fl_X4_37 dX4_clearScript_13 ?_
  refine z_iload_n cx dX4_clearScript_16 rfl ?_
  refine z_iret cx dX4_clearScript_17 ?_
  refine ⟨hs12, ⟨?_, ?_, ⟨la, hla3, ?_, ?_, ?_⟩, ⟨?_, ?_⟩, ?_, ?_, ?_⟩, ?_⟩
  · exact hF.same hl20 (fun f a i hq => by rw [gup_f _ _ _ _ _ _ _ (by unfold inF at hq; omega)])
  · exact fun q hq => (hRw q hq).same (fun i => by rw [gup_f _ _ _ _ _ _ _ (by decide)])
  · rw [gup_f _ _ _ _ _ _ _ (by decide)]; exact hla
  · rw [gup_f _ _ _ _ _ _ _ (by decide)]; exact hct
  · exact fun k hk => (hH k hk).same (hhO k hk).2.2.1 (fun f a i hq => by rw [gup_f _ _ _ _ _ _ _ (by unfold inF at hq; omega)])
  · rw [gup_s]
    rfl
  · intro i hi
    exact absurd hi (Nat.not_lt_zero _)
  · rw [gup_f _ _ _ _ _ _ _ (by decide)]; exact hr0
  · rw [gup_f _ _ _ _ _ _ _ (by decide)]; exact hr1
  · rw [gup_f _ _ _ _ _ _ _ (by decide)]; exact hr2
  · exact fun f a i hq => by rw [gup_f _ _ _ _ _ _ _ (by omega)]
set_option maxRecDepth 100000 in
set_option maxHeartbeats 4000000 in
theorem c_X4_fault {E : En} {G : Wd} {A : Ast} (hC : CRel G A) (hA : AOk A) : Cti E yX4_fault cX4_fault 1 .int 5 103 [.ref (E.1 0)] G (fun z G' => z = (s_fault A).1 ∧ CRel G' (s_fault A).2 ∧ MFx G G') := by
  obtain ⟨hF, hRw, ⟨la, hla3, hla, hct, hH⟩, hSc, hr0, hr1, hr2⟩ := id hC
  obtain ⟨hO, hh4, hhO, hScO, hRp⟩ := id hA
  obtain ⟨hR, hV, hcc, hcu, hn, hs⟩ := id hF
  obtain ⟨hOv, hOc, hOs⟩ := id hO
  have hl20 := hOs.1
  have hl12 := hOc.1
  obtain ⟨hv0, hv1, hv2, hv3, hv4, hv5⟩ := id hOv
  have w0 := hV 0 (by omega)
  have w1 := hV 1 (by omega)
  have w2 := hV 2 (by omega)
  have w3 := hV 3 (by omega)
  have w4 := hV 4 (by omega)
  have w5 := hV 5 (by omega)
  have hh := And.intro (recH_ok hA).1 (fun k hk => ((recH_ok hA).2 k hk).2.2.1)
  refine Cti.mk [some (.ref (E.1 0))] (by decide) rfl (by intro v hv; simp only [List.mem_cons, List.not_mem_nil, or_false] at hv; subst hv; rfl) (Nat.le_of_ble_eq_true rfl) ?_
  intro p l e s m args below meth c cx
  refine z_aload_n cx dX4_fault_0 rfl ?_
  refine g_X4_3 cx fl_X4_29 dX4_fault_1 ?_
  refine z_vi cx (c_X2_findFault (sc := A.2.2.1) hSc hScO) rfl mv_X2_findFault ml_X4_45 (by omega) (co_scr E _) rfl dX4_fault_4 (fun z4 G4 hz4 => ?_)
  refine z_iret cx dX4_fault_7 ?_
  obtain ⟨h1, h2⟩ := scr_rel hC hA hz4.2
  exact ⟨hz4.1, h1, h2⟩
set_option maxRecDepth 100000 in
set_option maxHeartbeats 4000000 in
theorem c_X4_why {E : En} {G : Wd} {A : Ast} (hC : CRel G A) (hA : AOk A) {x : Int} (hx : -2147483648 ≤ x ∧ x < 2147483648) : Cti E yX4_why cX4_why 2 .int 0 0 [.ref (E.1 0), .int (iN x)] G (fun z G' => z = (s_why A x).1 ∧ CRel G' (s_why A x).2 ∧ MFx G G') := by
  obtain ⟨hF, hRw, ⟨la, hla3, hla, hct, hH⟩, hSc, hr0, hr1, hr2⟩ := id hC
  obtain ⟨hO, hh4, hhO, hScO, hRp⟩ := id hA
  obtain ⟨hR, hV, hcc, hcu, hn, hs⟩ := id hF
  obtain ⟨hOv, hOc, hOs⟩ := id hO
  have hl20 := hOs.1
  have hl12 := hOc.1
  obtain ⟨hv0, hv1, hv2, hv3, hv4, hv5⟩ := id hOv
  have w0 := hV 0 (by omega)
  have w1 := hV 1 (by omega)
  have w2 := hV 2 (by omega)
  have w3 := hV 3 (by omega)
  have w4 := hV 4 (by omega)
  have w5 := hV 5 (by omega)
  have hh := And.intro (recH_ok hA).1 (fun k hk => ((recH_ok hA).2 k hk).2.2.1)
  refine Cti.mk [some (.ref (E.1 0)), some (.int (iN x))] (by decide) rfl (by intro v hv; simp only [List.mem_cons, List.not_mem_nil, or_false] at hv; rcases hv with rfl | rfl <;> rfl) (Nat.le_of_ble_eq_true rfl) ?_
  intro p l e s m args below meth c cx
  refine z_iload_n cx dX4_why_0 rfl ?_
  refine z_if_lt cx (tgt := 13) dX4_why_1 (fun h1 => ?_) (fun h1 => ?_)
  · skip
    refine z_bipush cx dX4_why_13 ?_
    refine z_iret cx dX4_why_15 ?_
    rw [show s_why A x = (-2, A) from by unfold s_why; rw [if_neg (by omega)]]
    exact ⟨rfl, hC, MFx.rf⟩
  · skip
    refine z_iload_n cx dX4_why_4 rfl ?_
    refine z_aload_n cx dX4_why_5 rfl ?_
    refine g_X4_4 cx fl_X4_33 dX4_why_6 ?_
    refine z_alen cx (by omega) (co_rep E _) dX4_why_9 ?_
    refine z_icmp_lt cx (tgt := 16) dX4_why_10 (fun h10 => ?_) (fun h10 => ?_)
    · skip
      refine z_aload_n cx dX4_why_16 rfl ?_
      refine g_X4_4 cx fl_X4_33 dX4_why_17 ?_
      refine z_iload_n cx dX4_why_20 rfl ?_
      refine z_iald cx (x.toNat) (by omega) (by omega) (co_rep E _) dX4_why_21 ?_
      refine z_iret cx dX4_why_22 ?_
      have hxx : x = 0 ∨ x = 1 ∨ x = 2 := by omega
      have hw : s_why A x = ((if x = 0 then A.2.2.2.1 else if x = 1 then A.2.2.2.2.1 else A.2.2.2.2.2), A) := by unfold s_why; rw [if_pos (by omega)]
      rw [hw]
      refine ⟨?_, hC, MFx.rf⟩
      rcases hxx with rfl | rfl | rfl
      · exact hr0
      · exact hr1
      · exact hr2
    · skip
      refine z_bipush cx dX4_why_13 ?_
      refine z_iret cx dX4_why_15 ?_
      rw [show s_why A x = (-2, A) from by unfold s_why; rw [if_neg (by omega)]]
      exact ⟨rfl, hC, MFx.rf⟩
set_option maxRecDepth 100000 in
set_option maxHeartbeats 4000000 in
theorem c_X4_undo {E : En} {G : Wd} {A : Ast} (hC : CRel G A) (hA : AOk A) : Cti E yX4_undo cX4_undo 1 .int 5 113 [.ref (E.1 0)] G (fun z G' => z = (s_undo A).1 ∧ CRel G' (s_undo A).2 ∧ MFx G G') := by
  obtain ⟨hF, hRw, ⟨la, hla3, hla, hct, hH⟩, hSc, hr0, hr1, hr2⟩ := id hC
  obtain ⟨hO, hh4, hhO, hScO, hRp⟩ := id hA
  obtain ⟨hR, hV, hcc, hcu, hn, hs⟩ := id hF
  obtain ⟨hOv, hOc, hOs⟩ := id hO
  have hl20 := hOs.1
  have hl12 := hOc.1
  obtain ⟨hv0, hv1, hv2, hv3, hv4, hv5⟩ := id hOv
  have w0 := hV 0 (by omega)
  have w1 := hV 1 (by omega)
  have w2 := hV 2 (by omega)
  have w3 := hV 3 (by omega)
  have w4 := hV 4 (by omega)
  have w5 := hV 5 (by omega)
  have hh := And.intro (recH_ok hA).1 (fun k hk => ((recH_ok hA).2 k hk).2.2.1)
  refine Cti.mk [some (.ref (E.1 0))] (by decide) rfl (by intro v hv; simp only [List.mem_cons, List.not_mem_nil, or_false] at hv; subst hv; rfl) (Nat.le_of_ble_eq_true rfl) ?_
  intro p l e s m args below meth c cx
  refine z_aload_n cx dX4_undo_0 rfl ?_
  refine g_X4_2 cx fl_X4_22 dX4_undo_1 ?_
  refine g_X1_1 cx fl_X4_103 dX4_undo_4 ?_
  refine z_iconst cx dX4_undo_7 ?_
  refine z_icmp_ge cx (tgt := 14) dX4_undo_8 (fun h8 => ?_) (fun h8 => ?_)
  · skip
    refine z_aload_n cx dX4_undo_14 rfl ?_
    refine g_X4_2 cx fl_X4_22 dX4_undo_15 ?_
    refine z_aload_n cx dX4_undo_18 rfl ?_
    refine g_X4_0 cx fl_X4_10 dX4_undo_19 ?_
    have hF0 : FilmIs G (2 + la) (A.2.1.getD 0 dF) := by
      have h := hH 0 (by omega)
      rw [show slot la 0 = la by unfold slot; omega] at h
      exact h
    refine z_vv cx (c_X1_restore (F := A.2.1.getD 0 dF) hla hla3 hct (by omega) hF0 (hhO 0 (by omega)) hRw) rfl mv_X1_restore ml_X4_106 (by omega) (co_hist E _) rfl dX4_undo_22 (fun G22 hz22 => ?_)
    refine z_aload_n cx dX4_undo_25 rfl ?_
    refine g_X4_2 cx fl_X4_22 dX4_undo_26 ?_
    refine g_X1_1 cx fl_X4_103 dX4_undo_29 ?_
    refine z_iret cx dX4_undo_32 ?_
    have hne : A.2.1.length ≠ 0 := by omega
    rw [show s_undo A = ((A.2.1.length : Int) - 1, (A.2.1.getD 0 dF, A.2.1.tail, A.2.2)) from by unfold s_undo; rw [if_neg hne]]
    obtain ⟨z1, z2, z3, z4⟩ := hz22
    have hl2 := (hhO 0 (by omega)).2.2.1
    refine ⟨z2, ⟨z3, ?_, ⟨_, (by split <;> omega), z1, ?_, ?_⟩, hSc.of (fun f i hq => z4 f 0 i (by unfold inF; omega)), (z4 19 0 0 (by unfold inF; omega)).trans hr0, (z4 19 0 1 (by unfold inF; omega)).trans hr1, (z4 19 0 2 (by unfold inF; omega)).trans hr2⟩, fun f a i hq => z4 f a i (by unfold inF; omega)⟩
    · intro q hq
      by_cases hq0 : q = 0
      · subst hq0; exact z3.1
      · exact (hRw q hq).same (fun i => z4 4 q i (by unfold inF; omega))
    · rw [z2]
      dsimp only
      rw [List.length_tail]
      omega
    · intro k hk
      dsimp only at hk ⊢
      rw [List.length_tail] at hk
      have e1 : slot (if 0 < la then la - 1 else 3) k = slot la (k + 1) := by unfold slot; split <;> omega
      have e2 : A.2.1.tail.getD k dF = A.2.1.getD (k + 1) dF := by
        rw [List.getD_eq_getElem?_getD, List.getD_eq_getElem?_getD, List.getElem?_tail]
      rw [e1, e2]
      exact (hH (k + 1) (by omega)).same (hhO (k + 1) (by omega)).2.2.1 (fun f a i hq => z4 f a i (by unfold inF at hq ⊢; omega))
  · skip
    refine z_bipush cx dX4_undo_11 ?_
    refine z_iret cx dX4_undo_13 ?_
    rw [show s_undo A = (-6, A) from by unfold s_undo; rw [if_pos (by omega)]]
    exact ⟨rfl, hC, MFx.rf⟩
set_option maxRecDepth 100000 in
set_option maxHeartbeats 4000000 in
theorem c_X4_remove {E : En} {G : Wd} {A : Ast} (hC : CRel G A) (hA : AOk A) {x : Int} (hx : -2147483648 ≤ x ∧ x < 2147483648) : Cti E yX4_remove cX4_remove 2 .int 5 113 [.ref (E.1 0), .int (iN x)] G (fun z G' => z = (s_remove A x).1 ∧ CRel G' (s_remove A x).2 ∧ MFx G G') := by
  obtain ⟨hF, hRw, ⟨la, hla3, hla, hct, hH⟩, hSc, hr0, hr1, hr2⟩ := id hC
  obtain ⟨hO, hh4, hhO, hScO, hRp⟩ := id hA
  obtain ⟨hR, hV, hcc, hcu, hn, hs⟩ := id hF
  obtain ⟨hOv, hOc, hOs⟩ := id hO
  have hl20 := hOs.1
  have hl12 := hOc.1
  obtain ⟨hv0, hv1, hv2, hv3, hv4, hv5⟩ := id hOv
  have w0 := hV 0 (by omega)
  have w1 := hV 1 (by omega)
  have w2 := hV 2 (by omega)
  have w3 := hV 3 (by omega)
  have w4 := hV 4 (by omega)
  have w5 := hV 5 (by omega)
  have hh := And.intro (recH_ok hA).1 (fun k hk => ((recH_ok hA).2 k hk).2.2.1)
  refine Cti.mk [some (.ref (E.1 0)), some (.int (iN x))] (by decide) rfl (by intro v hv; simp only [List.mem_cons, List.not_mem_nil, or_false] at hv; rcases hv with rfl | rfl <;> rfl) (Nat.le_of_ble_eq_true rfl) ?_
  intro p l e s m args below meth c cx
  refine z_aload_n cx dX4_remove_0 rfl ?_
  refine g_X4_0 cx fl_X4_10 dX4_remove_1 ?_
  refine z_iload_n cx dX4_remove_4 rfl ?_
  refine z_vi cx (c_X0_has (q := 0) (F := A.1) (by omega) hF hO hx) rfl mv_X0_has ml_X4_109 (by omega) (co_film E _ (by omega)) rfl dX4_remove_5 (fun z5 G5 hz5 => ?_)
  obtain ⟨eG, hz5⟩ := hz5
  have eG := eG.symm
  subst eG
  refine z_if_ne cx (tgt := 13) dX4_remove_8 (fun h8 => ?_) (fun h8 => ?_)
  · skip
    obtain ⟨k, rfl⟩ : ∃ k : Nat, x = k := ⟨x.toNat, by omega⟩
    refine z_aload_n cx dX4_remove_13 rfl ?_
    refine g_X4_2 cx fl_X4_22 dX4_remove_14 ?_
    refine z_aload_n cx dX4_remove_17 rfl ?_
    refine g_X4_0 cx fl_X4_10 dX4_remove_18 ?_
    refine z_vv cx (c_X1_record hla hla3 hct hh4 hF hO hRw) rfl mv_X1_record ml_X4_49 (by omega) (co_hist E _) rfl dX4_remove_21 (fun G21 hz21 => ?_)
    obtain ⟨hC1, hM1⟩ := rec_rel hC hA hla3 hla hz21
    have hF1 := hC1.1
    dsimp only at hF1
    refine z_aload_n cx dX4_remove_24 rfl ?_
    refine g_X4_0 cx fl_X4_10 dX4_remove_25 ?_
    refine z_iload_n cx dX4_remove_28 rfl ?_
    refine z_vv cx (c_X0_closeRow (q := 0) (pp := k) (nn := A.1.2.2.length) (by omega) hF1.1 hF1.hn (by omega) hl20) rfl mv_X0_closeRow ml_X4_113 (by omega) (co_film E _ (by omega)) rfl dX4_remove_29 (fun G29 hz29 => ?_)
    refine z_aload_n cx dX4_remove_32 rfl ?_
    refine g_X4_0 cx fl_X4_10 dX4_remove_33 ?_
    refine g_X0_1 cx (by omega) fl_X4_117 dX4_remove_36 ?_
    refine z_iret cx dX4_remove_39 ?_
    obtain ⟨hC2, hM2⟩ := film_rel hC1 hh (hz29.film hF1 (by omega) hl20) hz29.fr
    rw [show s_remove A (k : Int) = ((A.1.2.2.length : Int) - 1, act A (A.1.1, A.1.2.1, A.1.2.2.eraseIdx k)) from by unfold s_remove; rw [if_pos (by omega), Int.toNat_natCast]]
    exact ⟨hz29.1, hC2, hM1.tr hM2⟩
  · skip
    refine z_iconst cx dX4_remove_11 ?_
    refine z_iret cx dX4_remove_12 ?_
    rw [show s_remove A x = (-1, A) from by unfold s_remove; rw [if_neg (by omega)]]
    exact ⟨rfl, hC, MFx.rf⟩
set_option maxRecDepth 100000 in
set_option maxHeartbeats 4000000 in
theorem c_X4_shift {E : En} {G : Wd} {A : Ast} (hC : CRel G A) (hA : AOk A) {x y : Int} (hx : -2147483648 ≤ x ∧ x < 2147483648) (hy : -2147483648 ≤ y ∧ y < 2147483648) : Cti E yX4_shift cX4_shift 4 .int 5 113 [.ref (E.1 0), .int (iN x), .int (iN y)] G (fun z G' => z = (s_shift A x y).1 ∧ CRel G' (s_shift A x y).2 ∧ MFx G G') := by
  obtain ⟨hF, hRw, ⟨la, hla3, hla, hct, hH⟩, hSc, hr0, hr1, hr2⟩ := id hC
  obtain ⟨hO, hh4, hhO, hScO, hRp⟩ := id hA
  obtain ⟨hR, hV, hcc, hcu, hn, hs⟩ := id hF
  obtain ⟨hOv, hOc, hOs⟩ := id hO
  have hl20 := hOs.1
  have hl12 := hOc.1
  obtain ⟨hv0, hv1, hv2, hv3, hv4, hv5⟩ := id hOv
  have w0 := hV 0 (by omega)
  have w1 := hV 1 (by omega)
  have w2 := hV 2 (by omega)
  have w3 := hV 3 (by omega)
  have w4 := hV 4 (by omega)
  have w5 := hV 5 (by omega)
  have hh := And.intro (recH_ok hA).1 (fun k hk => ((recH_ok hA).2 k hk).2.2.1)
  refine Cti.mk [some (.ref (E.1 0)), some (.int (iN x)), some (.int (iN y)), none] (by decide) rfl (by intro v hv; simp only [List.mem_cons, List.not_mem_nil, or_false] at hv; rcases hv with rfl | rfl | rfl <;> rfl) (Nat.le_of_ble_eq_true rfl) ?_
  intro p l e s m args below meth c cx
  have L99 : ∀ (n : Nat) (k : Nat) (j : Nat) (G1 : Wd), (60 - j) < n → (x = k) → (k < A.1.2.2.length ∧ k ≤ j ∧ j ≤ A.1.2.2.length) → (-999 ≤ y ∧ y ≤ 999) → (¬ ((A.1.2.2.getD k dS).1 + y < (if 0 < k then (A.1.2.2.getD (k - 1) dS).2.1 else 0) ∨ 5000 < (A.1.2.2.getD (A.1.2.2.length - 1) dS).2.1 + y)) → (CRel G1 ((A.1.1, A.1.2.1, mixL A.1.2.2 (shL A.1.2.2 k y) j), recH A.2.1 A.1, A.2.2)) → (MFx G G1) → Z p l e (zr 5 113) s m args below meth c 4 0 0 E (Qi_ E below args s (fun z G' => z = (s_shift A x y).1 ∧ CRel G' (s_shift A x y).2 ∧ MFx G G')) G1 99 [some (.ref (E.1 0)), some (.int (iN x)), some (.int (iN y)), some (.int (iN (j : Int)))] [] := by
    intro n
    induction n with
    | zero =>
      intro k j G1 hmu
      exact absurd hmu (Nat.not_lt_zero _)
    | succ n ih =>
      intro k j G1 hmu hxk hkn hyb hcan hC1 hM1
      have hF1 := hC1.1
      dsimp only at hF1
      have hlen := mixL_len A.1.2.2 (shL A.1.2.2 k y) j
      have hn1 := hF1.hn
      dsimp only at hn1
      have hl201 := hl20
      rw [← hlen] at hl201
      refine z_iload_n cx dX4_shift_99 rfl ?_
      refine z_aload_n cx dX4_shift_100 rfl ?_
      refine g_X4_0 cx fl_X4_10 dX4_shift_101 ?_
      refine g_X0_1 cx (by omega) fl_X4_117 dX4_shift_104 ?_
      refine z_icmp_ge cx (tgt := 152) dX4_shift_107 (fun h107 => ?_) (fun h107 => ?_)
      · skip
        refine z_aload_n cx dX4_shift_152 rfl ?_
        refine g_X4_0 cx fl_X4_10 dX4_shift_153 ?_
        refine g_X0_1 cx (by omega) fl_X4_117 dX4_shift_156 ?_
        refine z_iload_n cx dX4_shift_159 rfl ?_
        refine z_isub cx dX4_shift_160 ?_
        refine z_iret cx dX4_shift_161 ?_
        have hjl : j = A.1.2.2.length := by omega
        subst hjl
        subst hxk
        rw [mixL_end (by rw [shL_len])] at hC1
        rw [show s_shift A (k : Int) y = ((A.1.2.2.length : Int) - k, act A (A.1.1, A.1.2.1, (shL A.1.2.2 k y))) from by unfold s_shift; rw [if_pos (by omega), if_pos (by omega), Int.toNat_natCast, if_neg hcan]]
        exact ⟨by rw [hn1, hlen], hC1, hM1⟩
      · skip
        have hkj := hF1.1.1 j (by omega)
        have hsj := hF1.2.2.2.2.2 j (by dsimp only; omega)
        dsimp only at hsj
        have hmj : (mixL A.1.2.2 (shL A.1.2.2 k y) j).getD j dS = A.1.2.2.getD j dS := mixL_hi _ _ (Nat.le_refl _)
        rw [hmj] at hsj
        have e5j := hsj.1
        have e6j := hsj.2.1
        refine z_aload_n cx dX4_shift_110 rfl ?_
        refine g_X4_0 cx fl_X4_10 dX4_shift_111 ?_
        refine g_X0_0 cx (by omega) fl_X4_77 dX4_shift_114 ?_
        refine z_iload_n cx dX4_shift_117 rfl ?_
        refine z_aldq cx (j) (by omega) (by omega) (co_rows E _ (by omega)) rfl dX4_shift_118 ?_
        refine z_dup cx dX4_shift_119 ?_
        refine g_X3_0 cx (by omega) fl_X4_85 dX4_shift_120 ?_
        refine z_iload_n cx dX4_shift_123 rfl ?_
        skip
        refine z_iadd cx dX4_shift_124 ?_
        refine p_X3_0 cx (by omega) fl_X4_85 dX4_shift_125 ?_
        refine z_aload_n cx dX4_shift_128 rfl ?_
        refine g_X4_0 cx fl_X4_10 dX4_shift_129 ?_
        refine g_X0_0 cx (by omega) fl_X4_77 dX4_shift_132 ?_
        refine z_iload_n cx dX4_shift_135 rfl ?_
        refine z_aldq cx (j) (by omega) (by omega) (co_rows E _ (by omega)) rfl dX4_shift_136 ?_
        rw [gup_f _ _ _ _ _ _ _ (show (4 : Nat) ≠ 5 by decide)]
        refine z_dup cx dX4_shift_137 ?_
        refine g_X3_1 cx (by omega) fl_X4_88 dX4_shift_138 ?_
        rw [gup_f _ _ _ _ _ _ _ (show (6 : Nat) ≠ 5 by decide)]
        refine z_iload_n cx dX4_shift_141 rfl ?_
        refine z_iadd cx dX4_shift_142 ?_
        refine p_X3_1 cx (by omega) fl_X4_88 dX4_shift_143 ?_
        refine z_iinc cx dX4_shift_146 rfl ?_
        refine z_goto cx (tgt := 99) dX4_shift_149 ?_
        have hset := film_set (F := (A.1.1, A.1.2.1, mixL A.1.2.2 (shL A.1.2.2 k y) j)) (i := j) (S := (shL A.1.2.2 k y).getD j dS) (G1 := gup (gup G1 5 (G1 4 0 j).toNat 0 (G1 5 (G1 4 0 j).toNat 0 + y)) 6 (G1 4 0 j).toNat 0 (G1 6 (G1 4 0 j).toNat 0 + y)) hF1 hl201 (by dsimp only; omega) (by
          rw [shL_ge (by omega) (by omega)]
          exact ⟨by rw [gup_f _ _ _ _ _ _ _ (by decide), gup_s, e5j], by rw [gup_s, e6j], by rw [gup_f _ _ _ _ _ _ _ (by decide), gup_f _ _ _ _ _ _ _ (by decide)]; exact hsj.2.2.1, fun j2 h2 => by rw [gup_f _ _ _ _ _ _ _ (by decide), gup_f _ _ _ _ _ _ _ (by decide)]; exact hsj.2.2.2 j2 h2⟩) (fun f a j2 hn2 => by rw [gup_eq, if_neg (by omega), gup_eq, if_neg (by omega)])
        obtain ⟨hC2, hM2⟩ := film_rel hC1 hh hset.1 hset.2
        refine Z.locs (ih (k) (j + 1) _ (by omega) hxk (by omega) hyb hcan hC2 (hM1.tr hM2)) ⟨rfl, rfl, rfl, rfl, trivial⟩
  refine z_aload_n cx dX4_shift_0 rfl ?_
  refine g_X4_0 cx fl_X4_10 dX4_shift_1 ?_
  refine z_iload_n cx dX4_shift_4 rfl ?_
  refine z_vi cx (c_X0_has (q := 0) (F := A.1) (by omega) hF hO hx) rfl mv_X0_has ml_X4_109 (by omega) (co_film E _ (by omega)) rfl dX4_shift_5 (fun z5 G5 hz5 => ?_)
  obtain ⟨eG, hz5⟩ := hz5
  have eG := eG.symm
  subst eG
  refine z_if_ne cx (tgt := 13) dX4_shift_8 (fun h8 => ?_) (fun h8 => ?_)
  · skip
    obtain ⟨k, rfl⟩ : ∃ k : Nat, x = k := ⟨x.toNat, by omega⟩
    refine z_iload_n cx dX4_shift_13 rfl ?_
    refine z_sipush cx dX4_shift_14 ?_
    refine z_icmp_lt cx (tgt := 27) dX4_shift_17 (fun h17 => ?_) (fun h17 => ?_)
    · skip
      refine z_bipush cx dX4_shift_27 ?_
      refine z_iret cx dX4_shift_29 ?_
      rw [show s_shift A (k : Int) y = (-2, A) from by unfold s_shift; rw [if_pos (by omega), if_neg (by omega)]]
      exact ⟨rfl, hC, MFx.rf⟩
    · skip
      refine z_iload_n cx dX4_shift_20 rfl ?_
      refine z_sipush cx dX4_shift_21 ?_
      refine z_icmp_le cx (tgt := 30) dX4_shift_24 (fun h24 => ?_) (fun h24 => ?_)
      · skip
        skip
        refine z_aload_n cx dX4_shift_30 rfl ?_
        have hk := hR.1 (k) (by omega)
        have hs_ := hs (k) (by omega)
        have ho := hOs.2.1 (k) (by omega)
        have e5 := hs_.1
        have e6 := hs_.2.1
        have e7 := hs_.2.2.1
        have o1 := ho.1
        have o2 := ho.2.1
        have o3 := ho.2.2.1
        have o4 := ho.2.2.2.1
        have o5 := ho.2.2.2.2.1
        refine g_X4_0 cx fl_X4_10 dX4_shift_31 ?_
        refine g_X0_0 cx (by omega) fl_X4_77 dX4_shift_34 ?_
        refine z_iload_n cx dX4_shift_37 rfl ?_
        refine z_aldq cx (k) (by omega) (by omega) (co_rows E _ (by omega)) rfl dX4_shift_38 ?_
        refine g_X3_0 cx (by omega) fl_X4_85 dX4_shift_39 ?_
        refine z_iload_n cx dX4_shift_42 rfl ?_
        refine z_iadd cx dX4_shift_43 ?_
        refine z_aload_n cx dX4_shift_44 rfl ?_
        refine g_X4_0 cx fl_X4_10 dX4_shift_45 ?_
        refine z_iload_n cx dX4_shift_48 rfl ?_
        refine z_vi cx (c_X0_endBefore (q := 0) (F := A.1) (i := k) (by omega) hF hO (by omega)) rfl mv_X0_endBefore ml_X4_118 (by omega) (co_film E _ (by omega)) rfl dX4_shift_49 (fun z49 G49 hz49 => ?_)
        have hEBb : 0 ≤ (if 0 < k then (A.1.2.2.getD (k - 1) dS).2.1 else 0) ∧ (if 0 < k then (A.1.2.2.getD (k - 1) dS).2.1 else 0) ≤ 5000 := by
          split
          · have w := hOs.2.1 (k - 1) (by omega)
            have w1 := w.1
            have w2 := w.2.1
            have w3 := w.2.2.1
            omega
          · omega
        generalize hEB : (if 0 < k then (A.1.2.2.getD (k - 1) dS).2.1 else 0) = eb at hz49 hEBb
        obtain ⟨eG, rfl⟩ := hz49
        have eG := eG.symm
        subst eG
        refine z_icmp_lt cx (tgt := 83) dX4_shift_52 (fun h52 => ?_) (fun h52 => ?_)
        · skip
          refine z_bipush cx dX4_shift_83 ?_
          refine z_iret cx dX4_shift_85 ?_
          rw [show s_shift A (k : Int) y = (-5, A) from by unfold s_shift; rw [if_pos (by omega), if_pos (by omega), Int.toNat_natCast, hEB, if_pos (by omega)]]
          exact ⟨rfl, hC, MFx.rf⟩
        · skip
          have hkz := hR.1 (A.1.2.2.length - 1) (by omega)
          have hsz_ := hs (A.1.2.2.length - 1) (by omega)
          have hoz := hOs.2.1 (A.1.2.2.length - 1) (by omega)
          have e5z := hsz_.1
          have e6z := hsz_.2.1
          have e7z := hsz_.2.2.1
          have o1z := hoz.1
          have o2z := hoz.2.1
          have o3z := hoz.2.2.1
          have o4z := hoz.2.2.2.1
          have o5z := hoz.2.2.2.2.1
          refine z_aload_n cx dX4_shift_55 rfl ?_
          refine g_X4_0 cx fl_X4_10 dX4_shift_56 ?_
          refine g_X0_0 cx (by omega) fl_X4_77 dX4_shift_59 ?_
          refine z_aload_n cx dX4_shift_62 rfl ?_
          refine g_X4_0 cx fl_X4_10 dX4_shift_63 ?_
          refine g_X0_1 cx (by omega) fl_X4_117 dX4_shift_66 ?_
          refine z_iconst cx dX4_shift_69 ?_
          refine z_isub cx dX4_shift_70 ?_
          refine z_aldq cx (A.1.2.2.length - 1) (by omega) (by omega) (co_rows E _ (by omega)) rfl dX4_shift_71 ?_
          refine g_X3_1 cx (by omega) fl_X4_88 dX4_shift_72 ?_
          refine z_iload_n cx dX4_shift_75 rfl ?_
          refine z_iadd cx dX4_shift_76 ?_
          refine z_sipush cx dX4_shift_77 ?_
          refine z_icmp_le cx (tgt := 86) dX4_shift_80 (fun h80 => ?_) (fun h80 => ?_)
          · skip
            refine z_aload_n cx dX4_shift_86 rfl ?_
            refine g_X4_2 cx fl_X4_22 dX4_shift_87 ?_
            refine z_aload_n cx dX4_shift_90 rfl ?_
            refine g_X4_0 cx fl_X4_10 dX4_shift_91 ?_
            refine z_vv cx (c_X1_record hla hla3 hct hh4 hF hO hRw) rfl mv_X1_record ml_X4_49 (by omega) (co_hist E _) rfl dX4_shift_94 (fun G94 hz94 => ?_)
            obtain ⟨hC1, hM1⟩ := rec_rel hC hA hla3 hla hz94
            have hF1 := hC1.1
            dsimp only at hF1
            have hcan : ¬ ((A.1.2.2.getD k dS).1 + y < (if 0 < k then (A.1.2.2.getD (k - 1) dS).2.1 else 0) ∨ 5000 < (A.1.2.2.getD (A.1.2.2.length - 1) dS).2.1 + y) := by
              rw [hEB]
              omega
            refine z_iload_n cx dX4_shift_97 rfl ?_
            refine z_istore_n cx dX4_shift_98 ?_
            refine Z.locs (L99 _ (k) (k) _ (Nat.lt_succ_self _) rfl (by omega) (by omega) hcan (by rw [mixL_same (by rw [shL_len]) (by omega) (fun i hi => (shL_lt hi (by omega)).symm)]; exact hC1) hM1) ⟨rfl, rfl, rfl, rfl, trivial⟩
          · skip
            refine z_bipush cx dX4_shift_83 ?_
            refine z_iret cx dX4_shift_85 ?_
            rw [show s_shift A (k : Int) y = (-5, A) from by unfold s_shift; rw [if_pos (by omega), if_pos (by omega), Int.toNat_natCast, hEB, if_pos (by omega)]]
            exact ⟨rfl, hC, MFx.rf⟩
      · skip
        refine z_bipush cx dX4_shift_27 ?_
        refine z_iret cx dX4_shift_29 ?_
        rw [show s_shift A (k : Int) y = (-2, A) from by unfold s_shift; rw [if_pos (by omega), if_neg (by omega)]]
        exact ⟨rfl, hC, MFx.rf⟩
  · skip
    refine z_iconst cx dX4_shift_11 ?_
    refine z_iret cx dX4_shift_12 ?_
    rw [show s_shift A x y = (-1, A) from by unfold s_shift; rw [if_neg (by omega)]]
    exact ⟨rfl, hC, MFx.rf⟩
set_option maxRecDepth 100000 in
set_option maxHeartbeats 4000000 in
theorem c_X4_setEnd {E : En} {G : Wd} {A : Ast} (hC : CRel G A) (hA : AOk A) {x y : Int} (hx : -2147483648 ≤ x ∧ x < 2147483648) (hy : -2147483648 ≤ y ∧ y < 2147483648) : Cti E yX4_setEnd cX4_setEnd 5 .int 5 113 [.ref (E.1 0), .int (iN x), .int (iN y)] G (fun z G' => z = (s_setEnd A x y).1 ∧ CRel G' (s_setEnd A x y).2 ∧ MFx G G') := by
  obtain ⟨hF, hRw, ⟨la, hla3, hla, hct, hH⟩, hSc, hr0, hr1, hr2⟩ := id hC
  obtain ⟨hO, hh4, hhO, hScO, hRp⟩ := id hA
  obtain ⟨hR, hV, hcc, hcu, hn, hs⟩ := id hF
  obtain ⟨hOv, hOc, hOs⟩ := id hO
  have hl20 := hOs.1
  have hl12 := hOc.1
  obtain ⟨hv0, hv1, hv2, hv3, hv4, hv5⟩ := id hOv
  have w0 := hV 0 (by omega)
  have w1 := hV 1 (by omega)
  have w2 := hV 2 (by omega)
  have w3 := hV 3 (by omega)
  have w4 := hV 4 (by omega)
  have w5 := hV 5 (by omega)
  have hh := And.intro (recH_ok hA).1 (fun k hk => ((recH_ok hA).2 k hk).2.2.1)
  refine Cti.mk [some (.ref (E.1 0)), some (.int (iN x)), some (.int (iN y)), none, none] (by decide) rfl (by intro v hv; simp only [List.mem_cons, List.not_mem_nil, or_false] at hv; rcases hv with rfl | rfl | rfl <;> rfl) (Nat.le_of_ble_eq_true rfl) ?_
  intro p l e s m args below meth c cx
  refine z_aload_n cx dX4_setEnd_0 rfl ?_
  refine g_X4_0 cx fl_X4_10 dX4_setEnd_1 ?_
  refine z_iload_n cx dX4_setEnd_4 rfl ?_
  refine z_vi cx (c_X0_has (q := 0) (F := A.1) (by omega) hF hO hx) rfl mv_X0_has ml_X4_109 (by omega) (co_film E _ (by omega)) rfl dX4_setEnd_5 (fun z5 G5 hz5 => ?_)
  obtain ⟨eG, hz5⟩ := hz5
  have eG := eG.symm
  subst eG
  refine z_if_ne cx (tgt := 13) dX4_setEnd_8 (fun h8 => ?_) (fun h8 => ?_)
  · skip
    obtain ⟨k, rfl⟩ : ∃ k : Nat, x = k := ⟨x.toNat, by omega⟩
    refine z_iload_n cx dX4_setEnd_13 rfl ?_
    refine z_if_lt cx (tgt := 24) dX4_setEnd_14 (fun h14 => ?_) (fun h14 => ?_)
    · skip
      refine z_bipush cx dX4_setEnd_24 ?_
      refine z_iret cx dX4_setEnd_26 ?_
      rw [show s_setEnd A (k : Int) y = (-2, A) from by unfold s_setEnd; rw [if_pos (by omega), if_neg (by omega)]]
      exact ⟨rfl, hC, MFx.rf⟩
    · skip
      refine z_iload_n cx dX4_setEnd_17 rfl ?_
      refine z_sipush cx dX4_setEnd_18 ?_
      refine z_icmp_le cx (tgt := 27) dX4_setEnd_21 (fun h21 => ?_) (fun h21 => ?_)
      · skip
        have hk := hR.1 (k) (by omega)
        have hs_ := hs (k) (by omega)
        have ho := hOs.2.1 (k) (by omega)
        have e5 := hs_.1
        have e6 := hs_.2.1
        have e7 := hs_.2.2.1
        have o1 := ho.1
        have o2 := ho.2.1
        have o3 := ho.2.2.1
        have o4 := ho.2.2.2.1
        have o5 := ho.2.2.2.2.1
        refine z_aload_n cx dX4_setEnd_27 rfl ?_
        refine g_X4_0 cx fl_X4_10 dX4_setEnd_28 ?_
        refine g_X0_0 cx (by omega) fl_X4_77 dX4_setEnd_31 ?_
        refine z_iload_n cx dX4_setEnd_34 rfl ?_
        refine z_aldq cx (k) (by omega) (by omega) (co_rows E _ (by omega)) rfl dX4_setEnd_35 ?_
        refine z_astore_n cx dX4_setEnd_36 ?_
        refine z_iload_n cx dX4_setEnd_37 rfl ?_
        refine z_aload_n cx dX4_setEnd_38 rfl ?_
        refine g_X3_0 cx (by omega) fl_X4_85 dX4_setEnd_39 ?_
        refine z_icmp_le cx (tgt := 57) dX4_setEnd_42 (fun h42 => ?_) (fun h42 => ?_)
        · skip
          refine z_bipush cx dX4_setEnd_57 ?_
          refine z_iret cx dX4_setEnd_59 ?_
          rw [show s_setEnd A (k : Int) y = (-5, A) from by unfold s_setEnd; rw [if_pos (by omega), if_pos (by omega), Int.toNat_natCast]; first | (rw [hSB, if_pos (by omega)]; done) | rw [if_pos (Or.inl (by omega))]]
          exact ⟨rfl, hC, MFx.rf⟩
        · skip
          refine z_iload_n cx dX4_setEnd_45 rfl ?_
          refine z_aload_n cx dX4_setEnd_46 rfl ?_
          refine g_X4_0 cx fl_X4_10 dX4_setEnd_47 ?_
          refine z_iload_n cx dX4_setEnd_50 rfl ?_
          refine z_vi cx (c_X0_startBehind (q := 0) (F := A.1) (i := k) (by omega) hF hO (by omega)) rfl mv_X0_startBehind ml_X4_121 (by omega) (co_film E _ (by omega)) rfl dX4_setEnd_51 (fun z51 G51 hz51 => ?_)
          have hSBb : 0 ≤ (if k + 1 < A.1.2.2.length then (A.1.2.2.getD (k + 1) dS).1 else 5000) ∧ (if k + 1 < A.1.2.2.length then (A.1.2.2.getD (k + 1) dS).1 else 5000) ≤ 5000 := by
            split
            · have w := hOs.2.1 (k + 1) (by omega)
              have w1 := w.1
              have w2 := w.2.1
              have w3 := w.2.2.1
              omega
            · omega
          generalize hSB : (if k + 1 < A.1.2.2.length then (A.1.2.2.getD (k + 1) dS).1 else 5000) = sb at hz51 hSBb
          obtain ⟨eG, rfl⟩ := hz51
          have eG := eG.symm
          subst eG
          refine z_icmp_le cx (tgt := 60) dX4_setEnd_54 (fun h54 => ?_) (fun h54 => ?_)
          · skip
            refine z_aload_n cx dX4_setEnd_60 rfl ?_
            refine g_X4_2 cx fl_X4_22 dX4_setEnd_61 ?_
            refine z_aload_n cx dX4_setEnd_64 rfl ?_
            refine g_X4_0 cx fl_X4_10 dX4_setEnd_65 ?_
            refine z_vv cx (c_X1_record hla hla3 hct hh4 hF hO hRw) rfl mv_X1_record ml_X4_49 (by omega) (co_hist E _) rfl dX4_setEnd_68 (fun G68 hz68 => ?_)
            obtain ⟨hC1, hM1⟩ := rec_rel hC hA hla3 hla hz68
            have hF1 := hC1.1
            dsimp only at hF1
            have hk1 := hF1.1.1 k (by omega)
            have e41 : G68 4 0 k = G 4 0 k := hz68.2.2.2 4 0 k (by unfold inF; split <;> omega)
            have hsk := hF1.2.2.2.2.2 k (by omega)
            rw [e41] at hsk
            have e6k := hsk.2.1
            refine z_aload_n cx dX4_setEnd_71 rfl ?_
            refine g_X3_1 cx (by omega) fl_X4_88 dX4_setEnd_72 ?_
            refine z_istore cx dX4_setEnd_75 ?_
            refine z_aload_n cx dX4_setEnd_77 rfl ?_
            refine z_iload_n cx dX4_setEnd_78 rfl ?_
            refine p_X3_1 cx (by omega) fl_X4_88 dX4_setEnd_79 ?_
            refine z_iload cx dX4_setEnd_82 rfl ?_
            refine z_iret cx dX4_setEnd_84 ?_
            have hset := film_set (F := A.1) (i := k) (S := ((A.1.2.2.getD k dS).1, y, (A.1.2.2.getD k dS).2.2)) (G1 := gup G68 6 (G 4 0 k).toNat 0 y) hF1 hl20 (by omega) (by
              rw [e41]
              exact ⟨by rw [gup_f _ _ _ _ _ _ _ (by decide)]; exact hsk.1, by rw [gup_s], by rw [gup_f _ _ _ _ _ _ _ (by decide)]; exact hsk.2.2.1, fun j2 h2 => by rw [gup_f _ _ _ _ _ _ _ (by decide)]; exact hsk.2.2.2 j2 h2⟩) (fun f a j2 hn2 => by rw [e41] at hn2; rw [gup_eq, if_neg (by omega)])
            obtain ⟨hC2, hM2⟩ := film_rel hC1 hh hset.1 hset.2
            rw [show s_setEnd A (k : Int) y = ((A.1.2.2.getD k dS).2.1, act A (A.1.1, A.1.2.1, A.1.2.2.set k ((A.1.2.2.getD k dS).1, y, (A.1.2.2.getD k dS).2.2))) from by unfold s_setEnd; rw [if_pos (by omega), if_pos (by omega), Int.toNat_natCast, hSB, if_neg (by omega)]]
            exact ⟨e6k, hC2, hM1.tr hM2⟩
          · skip
            refine z_bipush cx dX4_setEnd_57 ?_
            refine z_iret cx dX4_setEnd_59 ?_
            rw [show s_setEnd A (k : Int) y = (-5, A) from by unfold s_setEnd; rw [if_pos (by omega), if_pos (by omega), Int.toNat_natCast]; first | (rw [hSB, if_pos (by omega)]; done) | rw [if_pos (Or.inl (by omega))]]
            exact ⟨rfl, hC, MFx.rf⟩
      · skip
        refine z_bipush cx dX4_setEnd_24 ?_
        refine z_iret cx dX4_setEnd_26 ?_
        rw [show s_setEnd A (k : Int) y = (-2, A) from by unfold s_setEnd; rw [if_pos (by omega), if_neg (by omega)]]
        exact ⟨rfl, hC, MFx.rf⟩
  · skip
    refine z_iconst cx dX4_setEnd_11 ?_
    refine z_iret cx dX4_setEnd_12 ?_
    rw [show s_setEnd A x y = (-1, A) from by unfold s_setEnd; rw [if_neg (by omega)]]
    exact ⟨rfl, hC, MFx.rf⟩
set_option maxRecDepth 100000 in
set_option maxHeartbeats 4000000 in
theorem c_X4_split {E : En} {G : Wd} {A : Ast} (hC : CRel G A) (hA : AOk A) {x : Int} (hx : -2147483648 ≤ x ∧ x < 2147483648) : Cti E yX4_split cX4_split 3 .int 5 113 [.ref (E.1 0), .int (iN x)] G (fun z G' => z = (s_split A x).1 ∧ CRel G' (s_split A x).2 ∧ MFx G G') := by
  obtain ⟨hF, hRw, ⟨la, hla3, hla, hct, hH⟩, hSc, hr0, hr1, hr2⟩ := id hC
  obtain ⟨hO, hh4, hhO, hScO, hRp⟩ := id hA
  obtain ⟨hR, hV, hcc, hcu, hn, hs⟩ := id hF
  obtain ⟨hOv, hOc, hOs⟩ := id hO
  have hl20 := hOs.1
  have hl12 := hOc.1
  obtain ⟨hv0, hv1, hv2, hv3, hv4, hv5⟩ := id hOv
  have w0 := hV 0 (by omega)
  have w1 := hV 1 (by omega)
  have w2 := hV 2 (by omega)
  have w3 := hV 3 (by omega)
  have w4 := hV 4 (by omega)
  have w5 := hV 5 (by omega)
  have hh := And.intro (recH_ok hA).1 (fun k hk => ((recH_ok hA).2 k hk).2.2.1)
  refine Cti.mk [some (.ref (E.1 0)), some (.int (iN x)), none] (by decide) rfl (by intro v hv; simp only [List.mem_cons, List.not_mem_nil, or_false] at hv; rcases hv with rfl | rfl <;> rfl) (Nat.le_of_ble_eq_true rfl) ?_
  intro p l e s m args below meth c cx
  refine z_aload_n cx dX4_split_0 rfl ?_
  refine g_X4_0 cx fl_X4_10 dX4_split_1 ?_
  refine z_iload_n cx dX4_split_4 rfl ?_
  refine z_vi cx (c_X0_has (q := 0) (F := A.1) (by omega) hF hO hx) rfl mv_X0_has ml_X4_109 (by omega) (co_film E _ (by omega)) rfl dX4_split_5 (fun z5 G5 hz5 => ?_)
  obtain ⟨eG, hz5⟩ := hz5
  have eG := eG.symm
  subst eG
  refine z_if_ne cx (tgt := 13) dX4_split_8 (fun h8 => ?_) (fun h8 => ?_)
  · skip
    obtain ⟨k, rfl⟩ : ∃ k : Nat, x = k := ⟨x.toNat, by omega⟩
    have hk := hR.1 (k) (by omega)
    have hs_ := hs (k) (by omega)
    have ho := hOs.2.1 (k) (by omega)
    have e5 := hs_.1
    have e6 := hs_.2.1
    have e7 := hs_.2.2.1
    have o1 := ho.1
    have o2 := ho.2.1
    have o3 := ho.2.2.1
    have o4 := ho.2.2.2.1
    have o5 := ho.2.2.2.2.1
    have hbp := bBl_p ho.2.2.2
    have hbb : -6 ≤ bBl (A.1.2.2.getD k dS).2.2 ∧ bBl (A.1.2.2.getD k dS).2.2 ≤ 40 := by
      rcases hbp with w | ⟨j, w1, w2, w3, -⟩ <;> omega
    refine z_aload_n cx dX4_split_13 rfl ?_
    refine g_X4_0 cx fl_X4_10 dX4_split_14 ?_
    refine g_X0_0 cx (by omega) fl_X4_77 dX4_split_17 ?_
    refine z_iload_n cx dX4_split_20 rfl ?_
    refine z_aldq cx (k) (by omega) (by omega) (co_rows E _ (by omega)) rfl dX4_split_21 ?_
    refine z_vi cx (c_X3_bestBlank (S := (A.1.2.2.getD k dS)) (by omega) hs_ ho.2.2.2) rfl mv_X3_bestBlank ml_X4_124 (by omega) (co_sub E _ (by omega)) rfl dX4_split_22 (fun z22 G22 hz22 => ?_)
    obtain ⟨eG, rfl⟩ := hz22
    have eG := eG.symm
    subst eG
    refine z_istore_n cx dX4_split_25 ?_
    refine z_iload_n cx dX4_split_26 rfl ?_
    refine z_bipush cx dX4_split_27 ?_
    refine z_icmp_eq cx (tgt := 58) dX4_split_29 (fun h29 => ?_) (fun h29 => ?_)
    · skip
      refine z_bipush cx dX4_split_58 ?_
      refine z_iret cx dX4_split_60 ?_
      rw [show s_split A (k : Int) = (-5, A) from by unfold s_split; rw [if_pos (by omega), Int.toNat_natCast, if_pos (by omega)]]
      exact ⟨rfl, hC, MFx.rf⟩
    · skip
      refine z_aload_n cx dX4_split_32 rfl ?_
      refine g_X4_0 cx fl_X4_10 dX4_split_33 ?_
      refine g_X0_0 cx (by omega) fl_X4_77 dX4_split_36 ?_
      refine z_iload_n cx dX4_split_39 rfl ?_
      refine z_aldq cx (k) (by omega) (by omega) (co_rows E _ (by omega)) rfl dX4_split_40 ?_
      refine z_vi cx (c_X3_frames (by omega)) rfl mv_X3_frames ml_X4_127 (by omega) (co_sub E _ (by omega)) rfl dX4_split_41 (fun z41 G41 hz41 => ?_)
      obtain ⟨eG, rfl⟩ := hz41
      have eG := eG.symm
      subst eG
      refine z_aload_n cx dX4_split_44 rfl ?_
      refine g_X4_0 cx fl_X4_10 dX4_split_45 ?_
      refine g_X0_4 cx (by omega) fl_X4_130 dX4_split_48 ?_
      refine z_iconst cx dX4_split_51 ?_
      refine z_iald cx 1 rfl (by omega) (co_vals E _ (by omega)) dX4_split_52 ?_
      refine z_iconst cx dX4_split_53 ?_
      refine z_iadd cx dX4_split_54 ?_
      refine z_icmp_ge cx (tgt := 61) dX4_split_55 (fun h55 => ?_) (fun h55 => ?_)
      · skip
        refine z_aload_n cx dX4_split_61 rfl ?_
        refine g_X4_0 cx fl_X4_10 dX4_split_62 ?_
        refine g_X0_1 cx (by omega) fl_X4_117 dX4_split_65 ?_
        refine z_bipush cx dX4_split_68 ?_
        refine z_icmp_lt cx (tgt := 76) dX4_split_70 (fun h70 => ?_) (fun h70 => ?_)
        · skip
          obtain ⟨b, hb1, hb2, hb3, hb4⟩ : ∃ j : Nat, 1 ≤ j ∧ j + 1 < (A.1.2.2.getD k dS).2.2.length ∧ bBl (A.1.2.2.getD k dS).2.2 = j ∧ (A.1.2.2.getD k dS).2.2.getD j 0 = 32 := by
            rcases hbp with w | w
            · exfalso; omega
            · exact w
          clear hbp
          refine z_aload_n cx dX4_split_76 rfl ?_
          refine g_X4_2 cx fl_X4_22 dX4_split_77 ?_
          refine z_aload_n cx dX4_split_80 rfl ?_
          refine g_X4_0 cx fl_X4_10 dX4_split_81 ?_
          refine z_vv cx (c_X1_record hla hla3 hct hh4 hF hO hRw) rfl mv_X1_record ml_X4_49 (by omega) (co_hist E _) rfl dX4_split_84 (fun G84 hz84 => ?_)
          obtain ⟨hC1, hM1⟩ := rec_rel hC hA hla3 hla hz84
          have hF1 := hC1.1
          dsimp only at hF1
          refine z_aload_n cx dX4_split_87 rfl ?_
          refine g_X4_0 cx fl_X4_10 dX4_split_88 ?_
          refine z_iload_n cx dX4_split_91 rfl ?_
          refine z_iload_n cx dX4_split_92 rfl ?_
          rw [hb3]
          refine z_vv cx (c_X0_splitRow (q := 0) (F := A.1) (i := k) (b := b) (by omega) hF1 hO (by omega) (by omega) (by omega) (by omega)) rfl mv_X0_splitRow ml_X4_133 (by omega) (co_film E _ (by omega)) rfl dX4_split_93 (fun G93 hz93 => ?_)
          refine z_iload_n cx dX4_split_96 rfl ?_
          refine z_iret cx dX4_split_97 ?_
          obtain ⟨hC2, hM2⟩ := film_rel hC1 hh hz93.1 hz93.2
          rw [show s_split A (k : Int) = (bBl (A.1.2.2.getD k dS).2.2, act A (splF A.1 k b)) from by unfold s_split; rw [if_pos (by omega), Int.toNat_natCast, if_neg (by omega), if_neg (by omega), hb3, Int.toNat_natCast]]
          first
          | exact ⟨rfl, hC2, hM1.tr hM2⟩
          | exact ⟨hb3.symm, hC2, hM1.tr hM2⟩
        · skip
          refine z_bipush cx dX4_split_73 ?_
          refine z_iret cx dX4_split_75 ?_
          rw [show s_split A (k : Int) = (-4, A) from by unfold s_split; rw [if_pos (by omega), Int.toNat_natCast, if_neg (by omega), if_pos (by omega)]]
          exact ⟨rfl, hC, MFx.rf⟩
      · skip
        refine z_bipush cx dX4_split_58 ?_
        refine z_iret cx dX4_split_60 ?_
        rw [show s_split A (k : Int) = (-5, A) from by unfold s_split; rw [if_pos (by omega), Int.toNat_natCast, if_pos (by omega)]]
        exact ⟨rfl, hC, MFx.rf⟩
  · skip
    refine z_iconst cx dX4_split_11 ?_
    refine z_iret cx dX4_split_12 ?_
    rw [show s_split A x = (-1, A) from by unfold s_split; rw [if_neg (by omega)]]
    exact ⟨rfl, hC, MFx.rf⟩
set_option maxRecDepth 100000 in
set_option maxHeartbeats 4000000 in
theorem c_X4_join {E : En} {G : Wd} {A : Ast} (hC : CRel G A) (hA : AOk A) {x : Int} (hx : -2147483648 ≤ x ∧ x < 2147483648) : Cti E yX4_join cX4_join 3 .int 5 113 [.ref (E.1 0), .int (iN x)] G (fun z G' => z = (s_join A x).1 ∧ CRel G' (s_join A x).2 ∧ MFx G G') := by
  obtain ⟨hF, hRw, ⟨la, hla3, hla, hct, hH⟩, hSc, hr0, hr1, hr2⟩ := id hC
  obtain ⟨hO, hh4, hhO, hScO, hRp⟩ := id hA
  obtain ⟨hR, hV, hcc, hcu, hn, hs⟩ := id hF
  obtain ⟨hOv, hOc, hOs⟩ := id hO
  have hl20 := hOs.1
  have hl12 := hOc.1
  obtain ⟨hv0, hv1, hv2, hv3, hv4, hv5⟩ := id hOv
  have w0 := hV 0 (by omega)
  have w1 := hV 1 (by omega)
  have w2 := hV 2 (by omega)
  have w3 := hV 3 (by omega)
  have w4 := hV 4 (by omega)
  have w5 := hV 5 (by omega)
  have hh := And.intro (recH_ok hA).1 (fun k hk => ((recH_ok hA).2 k hk).2.2.1)
  refine Cti.mk [some (.ref (E.1 0)), some (.int (iN x)), none] (by decide) rfl (by intro v hv; simp only [List.mem_cons, List.not_mem_nil, or_false] at hv; rcases hv with rfl | rfl <;> rfl) (Nat.le_of_ble_eq_true rfl) ?_
  intro p l e s m args below meth c cx
  refine z_aload_n cx dX4_join_0 rfl ?_
  refine g_X4_0 cx fl_X4_10 dX4_join_1 ?_
  refine z_iload_n cx dX4_join_4 rfl ?_
  refine z_vi cx (c_X0_has (q := 0) (F := A.1) (by omega) hF hO hx) rfl mv_X0_has ml_X4_109 (by omega) (co_film E _ (by omega)) rfl dX4_join_5 (fun z5 G5 hz5 => ?_)
  obtain ⟨eG, hz5⟩ := hz5
  have eG := eG.symm
  subst eG
  refine z_if_eq cx (tgt := 24) dX4_join_8 (fun h8 => ?_) (fun h8 => ?_)
  · skip
    refine z_iconst cx dX4_join_24 ?_
    refine z_iret cx dX4_join_25 ?_
    rw [show s_join A x = (-1, A) from by unfold s_join; rw [if_neg (by omega)]]
    exact ⟨rfl, hC, MFx.rf⟩
  · skip
    refine z_iload_n cx dX4_join_11 rfl ?_
    refine z_aload_n cx dX4_join_12 rfl ?_
    refine g_X4_0 cx fl_X4_10 dX4_join_13 ?_
    refine g_X0_1 cx (by omega) fl_X4_117 dX4_join_16 ?_
    refine z_iconst cx dX4_join_19 ?_
    refine z_isub cx dX4_join_20 ?_
    refine z_icmp_lt cx (tgt := 26) dX4_join_21 (fun h21 => ?_) (fun h21 => ?_)
    · skip
      obtain ⟨k, rfl⟩ : ∃ k : Nat, x = k := ⟨x.toNat, by omega⟩
      have hk := hR.1 (k) (by omega)
      have hs_ := hs (k) (by omega)
      have ho := hOs.2.1 (k) (by omega)
      have e5 := hs_.1
      have e6 := hs_.2.1
      have e7 := hs_.2.2.1
      have o1 := ho.1
      have o2 := ho.2.1
      have o3 := ho.2.2.1
      have o4 := ho.2.2.2.1
      have o5 := ho.2.2.2.2.1
      have hkn := hR.1 (k + 1) (by omega)
      have hsn_ := hs (k + 1) (by omega)
      have hon := hOs.2.1 (k + 1) (by omega)
      have e5n := hsn_.1
      have e6n := hsn_.2.1
      have e7n := hsn_.2.2.1
      have o1n := hon.1
      have o2n := hon.2.1
      have o3n := hon.2.2.1
      have o4n := hon.2.2.2.1
      have o5n := hon.2.2.2.2.1
      refine z_aload_n cx dX4_join_26 rfl ?_
      refine g_X4_0 cx fl_X4_10 dX4_join_27 ?_
      refine g_X0_0 cx (by omega) fl_X4_77 dX4_join_30 ?_
      refine z_iload_n cx dX4_join_33 rfl ?_
      refine z_aldq cx (k) (by omega) (by omega) (co_rows E _ (by omega)) rfl dX4_join_34 ?_
      refine g_X3_2 cx (by omega) fl_X4_137 dX4_join_35 ?_
      refine z_iconst cx dX4_join_38 ?_
      refine z_iadd cx dX4_join_39 ?_
      refine z_aload_n cx dX4_join_40 rfl ?_
      refine g_X4_0 cx fl_X4_10 dX4_join_41 ?_
      refine g_X0_0 cx (by omega) fl_X4_77 dX4_join_44 ?_
      refine z_iload_n cx dX4_join_47 rfl ?_
      refine z_iconst cx dX4_join_48 ?_
      refine z_iadd cx dX4_join_49 ?_
      refine z_aldq cx (k + 1) (by omega) (by omega) (co_rows E _ (by omega)) rfl dX4_join_50 ?_
      refine g_X3_2 cx (by omega) fl_X4_137 dX4_join_51 ?_
      refine z_iadd cx dX4_join_54 ?_
      rw [e7, e7n]
      refine z_istore_n cx dX4_join_55 ?_
      refine z_iload_n cx dX4_join_56 rfl ?_
      refine z_bipush cx dX4_join_57 ?_
      refine z_icmp_le cx (tgt := 65) dX4_join_59 (fun h59 => ?_) (fun h59 => ?_)
      · skip
        refine z_aload_n cx dX4_join_65 rfl ?_
        refine g_X4_2 cx fl_X4_22 dX4_join_66 ?_
        refine z_aload_n cx dX4_join_69 rfl ?_
        refine g_X4_0 cx fl_X4_10 dX4_join_70 ?_
        refine z_vv cx (c_X1_record hla hla3 hct hh4 hF hO hRw) rfl mv_X1_record ml_X4_49 (by omega) (co_hist E _) rfl dX4_join_73 (fun G73 hz73 => ?_)
        obtain ⟨hC1, hM1⟩ := rec_rel hC hA hla3 hla hz73
        have hF1 := hC1.1
        dsimp only at hF1
        refine z_aload_n cx dX4_join_76 rfl ?_
        refine g_X4_0 cx fl_X4_10 dX4_join_77 ?_
        refine z_iload_n cx dX4_join_80 rfl ?_
        refine z_vv cx (c_X0_joinRows (q := 0) (F := A.1) (i := k) (by omega) hF1 hO (by omega) (by omega)) rfl mv_X0_joinRows ml_X4_138 (by omega) (co_film E _ (by omega)) rfl dX4_join_81 (fun G81 hz81 => ?_)
        refine z_iload_n cx dX4_join_84 rfl ?_
        refine z_iret cx dX4_join_85 ?_
        obtain ⟨hC2, hM2⟩ := film_rel hC1 hh hz81.1 hz81.2
        rw [show s_join A (k : Int) = (((A.1.2.2.getD k dS).2.2.length : Int) + 1 + (A.1.2.2.getD (k + 1) dS).2.2.length, act A (joiF A.1 k)) from by unfold s_join; rw [if_pos (by omega), Int.toNat_natCast, if_neg (by omega)]]
        exact ⟨rfl, hC2, hM1.tr hM2⟩
      · skip
        refine z_bipush cx dX4_join_62 ?_
        refine z_iret cx dX4_join_64 ?_
        rw [show s_join A (k : Int) = (-4, A) from by unfold s_join; rw [if_pos (by omega), Int.toNat_natCast, if_pos (by omega)]]
        exact ⟨rfl, hC, MFx.rf⟩
    · skip
      refine z_iconst cx dX4_join_24 ?_
      refine z_iret cx dX4_join_25 ?_
      rw [show s_join A x = (-1, A) from by unfold s_join; rw [if_neg (by omega)]]
      exact ⟨rfl, hC, MFx.rf⟩
set_option maxRecDepth 100000 in
set_option maxHeartbeats 4000000 in
theorem c_X4_seat {E : En} {G : Wd} {A : Ast} (hC : CRel G A) (hA : AOk A) : Cti E yX4_seat cX4_seat 1 .int 5 113 [.ref (E.1 0)] G (fun z G' => z = (s_seat A).1 ∧ CRel G' (s_seat A).2 ∧ MFx G G') := by
  obtain ⟨hF, hRw, ⟨la, hla3, hla, hct, hH⟩, hSc, hr0, hr1, hr2⟩ := id hC
  obtain ⟨hO, hh4, hhO, hScO, hRp⟩ := id hA
  obtain ⟨hR, hV, hcc, hcu, hn, hs⟩ := id hF
  obtain ⟨hOv, hOc, hOs⟩ := id hO
  have hl20 := hOs.1
  have hl12 := hOc.1
  obtain ⟨hv0, hv1, hv2, hv3, hv4, hv5⟩ := id hOv
  have w0 := hV 0 (by omega)
  have w1 := hV 1 (by omega)
  have w2 := hV 2 (by omega)
  have w3 := hV 3 (by omega)
  have w4 := hV 4 (by omega)
  have w5 := hV 5 (by omega)
  have hh := And.intro (recH_ok hA).1 (fun k hk => ((recH_ok hA).2 k hk).2.2.1)
  refine Cti.mk [some (.ref (E.1 0))] (by decide) rfl (by intro v hv; simp only [List.mem_cons, List.not_mem_nil, or_false] at hv; subst hv; rfl) (Nat.le_of_ble_eq_true rfl) ?_
  intro p l e s m args below meth c cx
  refine z_aload_n cx dX4_seat_0 rfl ?_
  refine g_X4_2 cx fl_X4_22 dX4_seat_1 ?_
  refine z_aload_n cx dX4_seat_4 rfl ?_
  refine g_X4_0 cx fl_X4_10 dX4_seat_5 ?_
  refine z_vv cx (c_X1_record hla hla3 hct hh4 hF hO hRw) rfl mv_X1_record ml_X4_49 (by omega) (co_hist E _) rfl dX4_seat_8 (fun G8 hz8 => ?_)
  obtain ⟨hC1, hM1⟩ := rec_rel hC hA hla3 hla hz8
  have hF1 := hC1.1
  dsimp only at hF1
  refine z_aload_n cx dX4_seat_11 rfl ?_
  refine g_X4_0 cx fl_X4_10 dX4_seat_12 ?_
  refine z_aload_n cx dX4_seat_15 rfl ?_
  refine g_X4_0 cx fl_X4_10 dX4_seat_16 ?_
  refine g_X0_4 cx (by omega) fl_X4_130 dX4_seat_19 ?_
  refine z_iconst cx dX4_seat_22 ?_
  refine z_iald cx 1 rfl (by omega) (co_vals E _ (by omega)) dX4_seat_23 ?_
  rw [hF1.2.1 1 (by omega)]
  refine z_vi cx (c_X0_seatAll (q := 0) (F := A.1) (x := A.1.1 1) (by omega) hF1 hO (by omega)) rfl mv_X0_seatAll ml_X4_141 (by omega) (co_film E _ (by omega)) rfl dX4_seat_24 (fun z24 G24 hz24 => ?_)
  refine z_iret cx dX4_seat_27 ?_
  obtain ⟨hC2, hM2⟩ := film_rel hC1 hh hz24.2.1 hz24.2.2
  exact ⟨hz24.1, hC2, hM1.tr hM2⟩
set_option maxRecDepth 100000 in
set_option maxHeartbeats 4000000 in
theorem c_X4_cut {E : En} {G : Wd} {A : Ast} (hC : CRel G A) (hA : AOk A) {x : Int} (hx : -2147483648 ≤ x ∧ x < 2147483648) : Cti E yX4_cut cX4_cut 2 .int 5 113 [.ref (E.1 0), .int (iN x)] G (fun z G' => z = (s_cut A x).1 ∧ CRel G' (s_cut A x).2 ∧ MFx G G') := by
  obtain ⟨hF, hRw, ⟨la, hla3, hla, hct, hH⟩, hSc, hr0, hr1, hr2⟩ := id hC
  obtain ⟨hO, hh4, hhO, hScO, hRp⟩ := id hA
  obtain ⟨hR, hV, hcc, hcu, hn, hs⟩ := id hF
  obtain ⟨hOv, hOc, hOs⟩ := id hO
  have hl20 := hOs.1
  have hl12 := hOc.1
  obtain ⟨hv0, hv1, hv2, hv3, hv4, hv5⟩ := id hOv
  have w0 := hV 0 (by omega)
  have w1 := hV 1 (by omega)
  have w2 := hV 2 (by omega)
  have w3 := hV 3 (by omega)
  have w4 := hV 4 (by omega)
  have w5 := hV 5 (by omega)
  have hh := And.intro (recH_ok hA).1 (fun k hk => ((recH_ok hA).2 k hk).2.2.1)
  refine Cti.mk [some (.ref (E.1 0)), some (.int (iN x))] (by decide) rfl (by intro v hv; simp only [List.mem_cons, List.not_mem_nil, or_false] at hv; rcases hv with rfl | rfl <;> rfl) (Nat.le_of_ble_eq_true rfl) ?_
  intro p l e s m args below meth c cx
  refine z_iload_n cx dX4_cut_0 rfl ?_
  refine z_iconst cx dX4_cut_1 ?_
  refine z_icmp_lt cx (tgt := 12) dX4_cut_2 (fun h2 => ?_) (fun h2 => ?_)
  · skip
    refine z_bipush cx dX4_cut_12 ?_
    refine z_iret cx dX4_cut_14 ?_
    rw [show s_cut A x = (-2, A) from by unfold s_cut; rw [if_neg (by omega)]]
    exact ⟨rfl, hC, MFx.rf⟩
  · skip
    refine z_iload_n cx dX4_cut_5 rfl ?_
    refine z_sipush cx dX4_cut_6 ?_
    refine z_icmp_lt cx (tgt := 15) dX4_cut_9 (fun h9 => ?_) (fun h9 => ?_)
    · skip
      refine z_aload_n cx dX4_cut_15 rfl ?_
      refine g_X4_0 cx fl_X4_10 dX4_cut_16 ?_
      refine z_iload_n cx dX4_cut_19 rfl ?_
      refine z_vi cx (c_X0_findCut (q := 0) (F := A.1) (by omega) hF hO hx) rfl mv_X0_findCut ml_X4_144 (by omega) (co_film E _ (by omega)) rfl dX4_cut_20 (fun z20 G20 hz20 => ?_)
      obtain ⟨eG, hz20⟩ := hz20
      have eG := eG.symm
      subst eG
      have hzr : -6 ≤ z20 ∧ z20 ≤ 12 := by
        rcases hz20 with ⟨w, -⟩ | ⟨i, w, w2, -⟩ <;> omega
      refine z_bipush cx dX4_cut_23 ?_
      refine z_icmp_eq cx (tgt := 31) dX4_cut_25 (fun h25 => ?_) (fun h25 => ?_)
      · skip
        have hnx : ∀ i, i < A.1.2.1.length → A.1.2.1.getD i 0 ≠ x := by
          rcases hz20 with ⟨-, w⟩ | ⟨i, w, w2, w3⟩
          · exact w
          · omega
        have hno : ¬ hasC A.1.2.1 x := by
          rintro ⟨i, w1, w2⟩
          exact hnx i w1 w2
        refine z_aload_n cx dX4_cut_31 rfl ?_
        refine g_X4_0 cx fl_X4_10 dX4_cut_32 ?_
        refine g_X0_3 cx (by omega) fl_X4_147 dX4_cut_35 ?_
        refine z_bipush cx dX4_cut_38 ?_
        refine z_icmp_lt cx (tgt := 46) dX4_cut_40 (fun h40 => ?_) (fun h40 => ?_)
        · skip
          refine z_aload_n cx dX4_cut_46 rfl ?_
          refine g_X4_2 cx fl_X4_22 dX4_cut_47 ?_
          refine z_aload_n cx dX4_cut_50 rfl ?_
          refine g_X4_0 cx fl_X4_10 dX4_cut_51 ?_
          refine z_vv cx (c_X1_record hla hla3 hct hh4 hF hO hRw) rfl mv_X1_record ml_X4_49 (by omega) (co_hist E _) rfl dX4_cut_54 (fun G54 hz54 => ?_)
          obtain ⟨hC1, hM1⟩ := rec_rel hC hA hla3 hla hz54
          have hF1 := hC1.1
          dsimp only at hF1
          refine z_aload_n cx dX4_cut_57 rfl ?_
          refine g_X4_0 cx fl_X4_10 dX4_cut_58 ?_
          refine z_iload_n cx dX4_cut_61 rfl ?_
          refine z_vv cx (c_X0_addCut (q := 0) (F := A.1) (by omega) hF1 hO (by omega) hnx (by omega)) rfl mv_X0_addCut ml_X4_150 (by omega) (co_film E _ (by omega)) rfl dX4_cut_62 (fun G62 hz62 => ?_)
          refine z_aload_n cx dX4_cut_65 rfl ?_
          refine g_X4_0 cx fl_X4_10 dX4_cut_66 ?_
          refine g_X0_3 cx (by omega) fl_X4_147 dX4_cut_69 ?_
          refine z_iret cx dX4_cut_72 ?_
          obtain ⟨hC2, hM2⟩ := film_rel hC1 hh hz62.1 hz62.2
          rw [show s_cut A x = ((A.1.2.1.length : Int) + 1, act A (A.1.1, insL A.1.2.1 (cpos A.1.2.1 x) x, A.1.2.2)) from by unfold s_cut; rw [if_pos (by omega), if_neg hno, if_neg (by omega)]]
          have hlc := hz62.1.hcc
          dsimp only at hlc
          have hcpl : cpos A.1.2.1 x ≤ A.1.2.1.length := (CP_ex hOc hnx).1
          refine ⟨?_, hC2, hM1.tr hM2⟩
          rw [hlc, insL_len hcpl]
          omega
        · skip
          refine z_bipush cx dX4_cut_43 ?_
          refine z_iret cx dX4_cut_45 ?_
          rw [show s_cut A x = (-4, A) from by unfold s_cut; rw [if_pos (by omega), if_neg hno, if_pos (by omega)]]
          exact ⟨rfl, hC, MFx.rf⟩
      · skip
        have hyes : hasC A.1.2.1 x := by
          rcases hz20 with ⟨w, -⟩ | ⟨i, w, w2, w3⟩
          · exact absurd w h25
          · exact ⟨i, w2, w3⟩
        refine z_bipush cx dX4_cut_28 ?_
        refine z_iret cx dX4_cut_30 ?_
        rw [show s_cut A x = (-5, A) from by unfold s_cut; rw [if_pos (by omega), if_pos hyes]]
        exact ⟨rfl, hC, MFx.rf⟩
    · skip
      refine z_bipush cx dX4_cut_12 ?_
      refine z_iret cx dX4_cut_14 ?_
      rw [show s_cut A x = (-2, A) from by unfold s_cut; rw [if_neg (by omega)]]
      exact ⟨rfl, hC, MFx.rf⟩
set_option maxRecDepth 100000 in
set_option maxHeartbeats 4000000 in
theorem c_X4_uncut {E : En} {G : Wd} {A : Ast} (hC : CRel G A) (hA : AOk A) {x : Int} (hx : -2147483648 ≤ x ∧ x < 2147483648) : Cti E yX4_uncut cX4_uncut 3 .int 5 113 [.ref (E.1 0), .int (iN x)] G (fun z G' => z = (s_uncut A x).1 ∧ CRel G' (s_uncut A x).2 ∧ MFx G G') := by
  obtain ⟨hF, hRw, ⟨la, hla3, hla, hct, hH⟩, hSc, hr0, hr1, hr2⟩ := id hC
  obtain ⟨hO, hh4, hhO, hScO, hRp⟩ := id hA
  obtain ⟨hR, hV, hcc, hcu, hn, hs⟩ := id hF
  obtain ⟨hOv, hOc, hOs⟩ := id hO
  have hl20 := hOs.1
  have hl12 := hOc.1
  obtain ⟨hv0, hv1, hv2, hv3, hv4, hv5⟩ := id hOv
  have w0 := hV 0 (by omega)
  have w1 := hV 1 (by omega)
  have w2 := hV 2 (by omega)
  have w3 := hV 3 (by omega)
  have w4 := hV 4 (by omega)
  have w5 := hV 5 (by omega)
  have hh := And.intro (recH_ok hA).1 (fun k hk => ((recH_ok hA).2 k hk).2.2.1)
  refine Cti.mk [some (.ref (E.1 0)), some (.int (iN x)), none] (by decide) rfl (by intro v hv; simp only [List.mem_cons, List.not_mem_nil, or_false] at hv; rcases hv with rfl | rfl <;> rfl) (Nat.le_of_ble_eq_true rfl) ?_
  intro p l e s m args below meth c cx
  refine z_aload_n cx dX4_uncut_0 rfl ?_
  refine g_X4_0 cx fl_X4_10 dX4_uncut_1 ?_
  refine z_iload_n cx dX4_uncut_4 rfl ?_
  refine z_vi cx (c_X0_findCut (q := 0) (F := A.1) (by omega) hF hO hx) rfl mv_X0_findCut ml_X4_144 (by omega) (co_film E _ (by omega)) rfl dX4_uncut_5 (fun z5 G5 hz5 => ?_)
  obtain ⟨eG, hz5⟩ := hz5
  have eG := eG.symm
  subst eG
  have hzr : -6 ≤ z5 ∧ z5 ≤ 12 := by
    rcases hz5 with ⟨w, -⟩ | ⟨i, w, w2, -⟩ <;> omega
  refine z_istore_n cx dX4_uncut_8 ?_
  refine z_iload_n cx dX4_uncut_9 rfl ?_
  refine z_bipush cx dX4_uncut_10 ?_
  refine z_icmp_ne cx (tgt := 17) dX4_uncut_12 (fun h12 => ?_) (fun h12 => ?_)
  · skip
    obtain ⟨k, rfl, hk1, hk2⟩ : ∃ i : Nat, z5 = i ∧ i < A.1.2.1.length ∧ A.1.2.1.getD i 0 = x := by
      rcases hz5 with ⟨w, -⟩ | w
      · exact absurd w h12
      · exact w
    refine z_aload_n cx dX4_uncut_17 rfl ?_
    refine g_X4_2 cx fl_X4_22 dX4_uncut_18 ?_
    refine z_aload_n cx dX4_uncut_21 rfl ?_
    refine g_X4_0 cx fl_X4_10 dX4_uncut_22 ?_
    refine z_vv cx (c_X1_record hla hla3 hct hh4 hF hO hRw) rfl mv_X1_record ml_X4_49 (by omega) (co_hist E _) rfl dX4_uncut_25 (fun G25 hz25 => ?_)
    obtain ⟨hC1, hM1⟩ := rec_rel hC hA hla3 hla hz25
    have hF1 := hC1.1
    dsimp only at hF1
    refine z_aload_n cx dX4_uncut_28 rfl ?_
    refine g_X4_0 cx fl_X4_10 dX4_uncut_29 ?_
    refine z_iload_n cx dX4_uncut_32 rfl ?_
    refine z_vv cx (c_X0_removeCut (q := 0) (F := A.1) (pp := k) (by omega) hF1 hO hk1) rfl mv_X0_removeCut ml_X4_153 (by omega) (co_film E _ (by omega)) rfl dX4_uncut_33 (fun G33 hz33 => ?_)
    refine z_aload_n cx dX4_uncut_36 rfl ?_
    refine g_X4_0 cx fl_X4_10 dX4_uncut_37 ?_
    refine g_X0_3 cx (by omega) fl_X4_147 dX4_uncut_40 ?_
    refine z_iret cx dX4_uncut_43 ?_
    obtain ⟨hC2, hM2⟩ := film_rel hC1 hh hz33.1 hz33.2
    rw [show s_uncut A x = ((A.1.2.1.length : Int) - 1, act A (A.1.1, A.1.2.1.eraseIdx k, A.1.2.2)) from by unfold s_uncut; rw [if_pos ⟨k, hk1, hk2⟩, cidx_of hOc hk1 hk2]]
    have hlc := hz33.1.hcc
    dsimp only at hlc
    refine ⟨?_, hC2, hM1.tr hM2⟩
    rw [hlc, delL_len hk1]
    omega
  · skip
    have hno : ¬ hasC A.1.2.1 x := by
      rintro ⟨i, w1, w2⟩
      rcases hz5 with ⟨-, w⟩ | ⟨i2, w, w3, w4⟩
      · exact w i w1 w2
      · omega
    refine z_iconst cx dX4_uncut_15 ?_
    refine z_iret cx dX4_uncut_16 ?_
    rw [show s_uncut A x = (-1, A) from by unfold s_uncut; rw [if_neg hno]]
    exact ⟨rfl, hC, MFx.rf⟩
set_option maxRecDepth 100000 in
set_option maxHeartbeats 4000000 in
theorem c_X4_set {E : En} {G : Wd} {A : Ast} (hC : CRel G A) (hA : AOk A) {x y : Int} (hx : -2147483648 ≤ x ∧ x < 2147483648) (hy : -2147483648 ≤ y ∧ y < 2147483648) : Cti E yX4_set cX4_set 4 .int 5 113 [.ref (E.1 0), .int (iN x), .int (iN y)] G (fun z G' => z = (s_set A x y).1 ∧ CRel G' (s_set A x y).2 ∧ MFx G G') := by
  obtain ⟨hF, hRw, ⟨la, hla3, hla, hct, hH⟩, hSc, hr0, hr1, hr2⟩ := id hC
  obtain ⟨hO, hh4, hhO, hScO, hRp⟩ := id hA
  obtain ⟨hR, hV, hcc, hcu, hn, hs⟩ := id hF
  obtain ⟨hOv, hOc, hOs⟩ := id hO
  have hl20 := hOs.1
  have hl12 := hOc.1
  obtain ⟨hv0, hv1, hv2, hv3, hv4, hv5⟩ := id hOv
  have w0 := hV 0 (by omega)
  have w1 := hV 1 (by omega)
  have w2 := hV 2 (by omega)
  have w3 := hV 3 (by omega)
  have w4 := hV 4 (by omega)
  have w5 := hV 5 (by omega)
  have hh := And.intro (recH_ok hA).1 (fun k hk => ((recH_ok hA).2 k hk).2.2.1)
  refine Cti.mk [some (.ref (E.1 0)), some (.int (iN x)), some (.int (iN y)), none] (by decide) rfl (by intro v hv; simp only [List.mem_cons, List.not_mem_nil, or_false] at hv; rcases hv with rfl | rfl | rfl <;> rfl) (Nat.le_of_ble_eq_true rfl) ?_
  intro p l e s m args below meth c cx
  refine z_iload_n cx dX4_set_0 rfl ?_
  refine z_if_lt cx (tgt := 10) dX4_set_1 (fun h1 => ?_) (fun h1 => ?_)
  · skip
    refine z_iconst cx dX4_set_10 ?_
    refine z_iret cx dX4_set_11 ?_
    rw [show s_set A x y = (-1, A) from by unfold s_set; rw [if_neg (by omega)]]
    exact ⟨rfl, hC, MFx.rf⟩
  · skip
    refine z_iload_n cx dX4_set_4 rfl ?_
    refine z_bipush cx dX4_set_5 ?_
    refine z_icmp_lt cx (tgt := 12) dX4_set_7 (fun h7 => ?_) (fun h7 => ?_)
    · skip
      obtain ⟨k, rfl⟩ : ∃ k : Nat, x = k := ⟨x.toNat, by omega⟩
      have hlb : 0 ≤ lowT k ∧ lowT k ≤ 50 := by
        unfold lowT
        repeat' split
        all_goals omega
      have hhb : 0 ≤ higT k ∧ higT k ≤ 250 := by
        unfold higT
        repeat' split
        all_goals omega
      refine z_iload_n cx dX4_set_12 rfl ?_
      refine z_gets cx 0 (Or.inl ⟨rfl, rfl⟩) fl_X4_156 dX4_set_13 ?_
      refine z_iload_n cx dX4_set_16 rfl ?_
      refine z_tlow cx (k) (by omega) dX4_set_17 ?_
      refine z_icmp_lt cx (tgt := 30) dX4_set_18 (fun h18 => ?_) (fun h18 => ?_)
      · skip
        refine z_bipush cx dX4_set_30 ?_
        refine z_iret cx dX4_set_32 ?_
        rw [show s_set A (k : Int) y = (-2, A) from by unfold s_set; rw [if_pos (by omega), Int.toNat_natCast, if_neg (by omega)]]
        exact ⟨rfl, hC, MFx.rf⟩
      · skip
        refine z_iload_n cx dX4_set_21 rfl ?_
        refine z_gets cx 1 (Or.inr ⟨rfl, rfl⟩) fl_X4_159 dX4_set_22 ?_
        refine z_iload_n cx dX4_set_25 rfl ?_
        refine z_thig cx (k) (by omega) dX4_set_26 ?_
        refine z_icmp_le cx (tgt := 33) dX4_set_27 (fun h27 => ?_) (fun h27 => ?_)
        · skip
          refine z_aload_n cx dX4_set_33 rfl ?_
          refine g_X4_2 cx fl_X4_22 dX4_set_34 ?_
          refine z_aload_n cx dX4_set_37 rfl ?_
          refine g_X4_0 cx fl_X4_10 dX4_set_38 ?_
          refine z_vv cx (c_X1_record hla hla3 hct hh4 hF hO hRw) rfl mv_X1_record ml_X4_49 (by omega) (co_hist E _) rfl dX4_set_41 (fun G41 hz41 => ?_)
          obtain ⟨hC1, hM1⟩ := rec_rel hC hA hla3 hla hz41
          have hF1 := hC1.1
          dsimp only at hF1
          refine z_aload_n cx dX4_set_44 rfl ?_
          refine g_X4_0 cx fl_X4_10 dX4_set_45 ?_
          refine g_X0_4 cx (by omega) fl_X4_130 dX4_set_48 ?_
          refine z_iload_n cx dX4_set_51 rfl ?_
          refine z_iald cx (k) (by omega) (by omega) (co_vals E _ (by omega)) dX4_set_52 ?_
          refine z_istore_n cx dX4_set_53 ?_
          refine z_aload_n cx dX4_set_54 rfl ?_
          refine g_X4_0 cx fl_X4_10 dX4_set_55 ?_
          refine g_X0_4 cx (by omega) fl_X4_130 dX4_set_58 ?_
          refine z_iload_n cx dX4_set_61 rfl ?_
          refine z_iload_n cx dX4_set_62 rfl ?_
          refine z_iast cx (k) (by omega) (by omega) rfl (fun G => co_vals E G (by omega)) dX4_set_63 ?_
          refine z_iload_n cx dX4_set_64 rfl ?_
          refine z_iret cx dX4_set_65 ?_
          obtain ⟨hF2, hfr2⟩ := film_val (k := k) (v := y) hF1 (by omega) rfl
          obtain ⟨hC2, hM2⟩ := film_rel hC1 hh hF2 hfr2
          rw [show s_set A (k : Int) y = (A.1.1 k, act A (updV1 A.1.1 k y, A.1.2)) from by unfold s_set; rw [if_pos (by omega), Int.toNat_natCast, if_pos (by omega)]]
          exact ⟨hF1.2.1 k (by omega), hC2, hM1.tr hM2⟩
        · skip
          refine z_bipush cx dX4_set_30 ?_
          refine z_iret cx dX4_set_32 ?_
          rw [show s_set A (k : Int) y = (-2, A) from by unfold s_set; rw [if_pos (by omega), Int.toNat_natCast, if_neg (by omega)]]
          exact ⟨rfl, hC, MFx.rf⟩
    · skip
      refine z_iconst cx dX4_set_10 ?_
      refine z_iret cx dX4_set_11 ?_
      rw [show s_set A x y = (-1, A) from by unfold s_set; rw [if_neg (by omega)]]
      exact ⟨rfl, hC, MFx.rf⟩
