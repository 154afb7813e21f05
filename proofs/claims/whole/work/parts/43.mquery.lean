/-! ===== the model: queries ===== -/
set_option maxRecDepth 100000 in
set_option maxHeartbeats 4000000 in
theorem c_X5_subtitles {E : En} {G : Wd} {A : Ast} (hR : MRel G A) (hA : AOk A) : Cti E yX5_subtitles cX5_subtitles 1 .int 0 0 [.ref (E.1 6)] G (fun z G' => z = (A.1.2.2.length : Int) ∧ MRel G' A ∧ CFx G G') := by
  have hM := hR.1
  have hO := hA.1
  obtain ⟨m0, mV, m7, mC, mS⟩ := id hM
  obtain ⟨hOv, hOc, hOs⟩ := id hO
  have hl20 := hOs.1
  have hl12 := hOc.1
  obtain ⟨hv0, hv1, hv2, hv3, hv4, hv5⟩ := id hOv
  have v0 : G 20 0 1 = A.1.1 0 := mV 0 (by omega)
  have v1 : G 20 0 2 = A.1.1 1 := mV 1 (by omega)
  have v2 : G 20 0 3 = A.1.1 2 := mV 2 (by omega)
  have v3 : G 20 0 4 = A.1.1 3 := mV 3 (by omega)
  have v4 : G 20 0 5 = A.1.1 4 := mV 4 (by omega)
  have v5 : G 20 0 6 = A.1.1 5 := mV 5 (by omega)
  refine Cti.mk [some (.ref (E.1 6))] (by decide) rfl (by intro v hv; simp only [List.mem_cons, List.not_mem_nil, or_false] at hv; subst hv; rfl) (Nat.le_of_ble_eq_true rfl) ?_
  intro p l e s m args below meth c cx
  refine z_aload_n cx dX5_subtitles_0 rfl ?_
  refine g_X5_0 cx fl_X5_7 dX5_subtitles_1 ?_
  refine z_iconst cx dX5_subtitles_4 ?_
  refine z_iald cx (0) (by omega) (by omega) (co_s E _) dX5_subtitles_5 ?_
  refine z_iret cx dX5_subtitles_6 ?_
  refine ⟨?_, hR, CFx.rf⟩
  exact m0
set_option maxRecDepth 100000 in
set_option maxHeartbeats 4000000 in
theorem c_X5_cuts {E : En} {G : Wd} {A : Ast} (hR : MRel G A) (hA : AOk A) : Cti E yX5_cuts cX5_cuts 1 .int 0 0 [.ref (E.1 6)] G (fun z G' => z = (A.1.2.1.length : Int) ∧ MRel G' A ∧ CFx G G') := by
  have hM := hR.1
  have hO := hA.1
  obtain ⟨m0, mV, m7, mC, mS⟩ := id hM
  obtain ⟨hOv, hOc, hOs⟩ := id hO
  have hl20 := hOs.1
  have hl12 := hOc.1
  obtain ⟨hv0, hv1, hv2, hv3, hv4, hv5⟩ := id hOv
  have v0 : G 20 0 1 = A.1.1 0 := mV 0 (by omega)
  have v1 : G 20 0 2 = A.1.1 1 := mV 1 (by omega)
  have v2 : G 20 0 3 = A.1.1 2 := mV 2 (by omega)
  have v3 : G 20 0 4 = A.1.1 3 := mV 3 (by omega)
  have v4 : G 20 0 5 = A.1.1 4 := mV 4 (by omega)
  have v5 : G 20 0 6 = A.1.1 5 := mV 5 (by omega)
  refine Cti.mk [some (.ref (E.1 6))] (by decide) rfl (by intro v hv; simp only [List.mem_cons, List.not_mem_nil, or_false] at hv; subst hv; rfl) (Nat.le_of_ble_eq_true rfl) ?_
  intro p l e s m args below meth c cx
  refine z_aload_n cx dX5_cuts_0 rfl ?_
  refine g_X5_0 cx fl_X5_7 dX5_cuts_1 ?_
  refine z_bipush cx dX5_cuts_4 ?_
  refine z_iald cx (7) (by omega) (by omega) (co_s E _) dX5_cuts_6 ?_
  refine z_iret cx dX5_cuts_7 ?_
  refine ⟨?_, hR, CFx.rf⟩
  exact m7
set_option maxRecDepth 100000 in
set_option maxHeartbeats 4000000 in
theorem c_X5_subtitle {E : En} {G : Wd} {A : Ast} (hR : MRel G A) (hA : AOk A) {x y : Int} (hx : -2147483648 ≤ x ∧ x < 2147483648) (hy : -2147483648 ≤ y ∧ y < 2147483648) : Cti E yX5_subtitle cX5_subtitle 3 .int 5 119 [.ref (E.1 6), .int (iN (x)), .int (iN (y))] G (fun z G' => z = r_subtitle A x y ∧ MRel G' A ∧ CFx G G') := by
  have hM := hR.1
  have hO := hA.1
  obtain ⟨m0, mV, m7, mC, mS⟩ := id hM
  obtain ⟨hOv, hOc, hOs⟩ := id hO
  have hl20 := hOs.1
  have hl12 := hOc.1
  obtain ⟨hv0, hv1, hv2, hv3, hv4, hv5⟩ := id hOv
  have v0 : G 20 0 1 = A.1.1 0 := mV 0 (by omega)
  have v1 : G 20 0 2 = A.1.1 1 := mV 1 (by omega)
  have v2 : G 20 0 3 = A.1.1 2 := mV 2 (by omega)
  have v3 : G 20 0 4 = A.1.1 3 := mV 3 (by omega)
  have v4 : G 20 0 5 = A.1.1 4 := mV 4 (by omega)
  have v5 : G 20 0 6 = A.1.1 5 := mV 5 (by omega)
  refine Cti.mk [some (.ref (E.1 6)), some (.int (iN (x))), some (.int (iN (y)))] (by decide) rfl (by intro v hv; simp only [List.mem_cons, List.not_mem_nil, or_false] at hv; rcases hv with rfl | rfl | rfl <;> rfl) (Nat.le_of_ble_eq_true rfl) ?_
  intro p l e s m args below meth c cx
  refine z_aload_n cx dX5_subtitle_0 rfl ?_
  refine z_iload_n cx dX5_subtitle_1 rfl ?_
  refine z_vi cx (c_X5_isSubtitle (by omega) m0) rfl mv_X5_isSubtitle ml_X5_162 (by omega) (co_mod E _) rfl dX5_subtitle_2 (fun z2 G2 hz2 => ?_)
  obtain ⟨eG, hz2⟩ := hz2
  have eG := eG.symm
  subst eG
  refine z_if_ne cx (tgt := 10) dX5_subtitle_5 (fun h5 => ?_) (fun h5 => ?_)
  · skip
    obtain ⟨k, rfl⟩ : ∃ k : Nat, x = k := ⟨x.toNat, by omega⟩
    have hs_ := mS (k) (by omega)
    have ho := hOs.2.1 (k) (by omega)
    have t0 := hs_.1
    have t1 := hs_.2.1
    have t2 := hs_.2.2.1
    have t3 := hs_.2.2.2
    have o1 := ho.1
    have o2 := ho.2.1
    have o3 := ho.2.2.1
    have o4 := ho.2.2.2.1
    have o5 := ho.2.2.2.2.1
    refine z_iload_n cx dX5_subtitle_10 rfl ?_
    rcases (show y = 0 ∨ y = 1 ∨ y = 2 ∨ y = 3 ∨ y = 4 ∨ y = 5 ∨ y = 6 ∨ (y < 0 ∨ 6 < y) by omega) with rfl | rfl | rfl | rfl | rfl | rfl | rfl | hsw
    · skip
      refine z_tblIn cx (tgt := 52) (off := 41) dX5_subtitle_11 rfl (by decide) ?_
      refine z_aload_n cx dX5_subtitle_52 rfl ?_
      refine z_iload_n cx dX5_subtitle_53 rfl ?_
      refine z_iload_n cx dX5_subtitle_54 rfl ?_
      refine z_vi cx (c_X5_of (20 + 43 * k) (by omega) (by omega)) rfl mv_X5_of ml_X5_43 (by omega) (co_mod E _) rfl dX5_subtitle_55 (fun z55 G55 hz55 => ?_)
      obtain ⟨eG, rfl⟩ := hz55
      have eG := eG.symm
      subst eG
      refine z_iret cx dX5_subtitle_58 ?_
      refine ⟨?_, hR, CFx.rf⟩
      unfold r_subtitle
      rw [if_pos (by omega), Int.toNat_natCast]
      first
      | (rw [if_pos rfl]; exact t0)
      | (rw [if_neg (by decide), if_pos rfl]; exact t1)
      | (rw [if_neg (by decide), if_neg (by decide), if_pos rfl]; exact t2)
    · skip
      refine z_tblIn cx (tgt := 52) (off := 41) dX5_subtitle_11 rfl (by decide) ?_
      refine z_aload_n cx dX5_subtitle_52 rfl ?_
      refine z_iload_n cx dX5_subtitle_53 rfl ?_
      refine z_iload_n cx dX5_subtitle_54 rfl ?_
      refine z_vi cx (c_X5_of (20 + 43 * k + 1) (by omega) (by omega)) rfl mv_X5_of ml_X5_43 (by omega) (co_mod E _) rfl dX5_subtitle_55 (fun z55 G55 hz55 => ?_)
      obtain ⟨eG, rfl⟩ := hz55
      have eG := eG.symm
      subst eG
      refine z_iret cx dX5_subtitle_58 ?_
      refine ⟨?_, hR, CFx.rf⟩
      unfold r_subtitle
      rw [if_pos (by omega), Int.toNat_natCast]
      first
      | (rw [if_pos rfl]; exact t0)
      | (rw [if_neg (by decide), if_pos rfl]; exact t1)
      | (rw [if_neg (by decide), if_neg (by decide), if_pos rfl]; exact t2)
    · skip
      refine z_tblIn cx (tgt := 52) (off := 41) dX5_subtitle_11 rfl (by decide) ?_
      refine z_aload_n cx dX5_subtitle_52 rfl ?_
      refine z_iload_n cx dX5_subtitle_53 rfl ?_
      refine z_iload_n cx dX5_subtitle_54 rfl ?_
      refine z_vi cx (c_X5_of (20 + 43 * k + 2) (by omega) (by omega)) rfl mv_X5_of ml_X5_43 (by omega) (co_mod E _) rfl dX5_subtitle_55 (fun z55 G55 hz55 => ?_)
      obtain ⟨eG, rfl⟩ := hz55
      have eG := eG.symm
      subst eG
      refine z_iret cx dX5_subtitle_58 ?_
      refine ⟨?_, hR, CFx.rf⟩
      unfold r_subtitle
      rw [if_pos (by omega), Int.toNat_natCast]
      first
      | (rw [if_pos rfl]; exact t0)
      | (rw [if_neg (by decide), if_pos rfl]; exact t1)
      | (rw [if_neg (by decide), if_neg (by decide), if_pos rfl]; exact t2)
    · skip
      refine z_tblIn cx (tgt := 59) (off := 48) dX5_subtitle_11 rfl (by decide) ?_
      refine z_aload_n cx dX5_subtitle_59 rfl ?_
      refine z_iload_n cx dX5_subtitle_60 rfl ?_
      refine z_vi cx (c_X5_needs (F := A.1) rfl hs_ ho (by omega) hOv v0 v2) rfl mv_X5_needs ml_X5_85 (by omega) (co_mod E _) rfl dX5_subtitle_61 (fun z61 G61 hz61 => ?_)
      obtain ⟨eG, rfl⟩ := hz61
      have eG := eG.symm
      subst eG
      refine z_iret cx dX5_subtitle_64 ?_
      refine ⟨?_, hR, CFx.rf⟩
      unfold r_subtitle
      rw [if_pos (by omega), Int.toNat_natCast]
      rw [if_neg (by decide), if_neg (by decide), if_neg (by decide), if_pos rfl]
    · skip
      refine z_tblIn cx (tgt := 65) (off := 54) dX5_subtitle_11 rfl (by decide) ?_
      refine z_aload_n cx dX5_subtitle_65 rfl ?_
      refine z_iload_n cx dX5_subtitle_66 rfl ?_
      refine z_vi cx (c_X5_faultsOf hM hO rfl (by omega)) rfl mv_X5_faultsOf ml_X5_79 (by omega) (co_mod E _) rfl dX5_subtitle_67 (fun z67 G67 hz67 => ?_)
      obtain ⟨rfl, hfrhz67⟩ := hz67
      refine z_iret cx dX5_subtitle_70 ?_
      have hq : FrQ G _ := fun f a i h => hfrhz67 f a i (by omega)
      refine ⟨?_, hq.rel hR, hq.cfx⟩
      unfold r_subtitle
      rw [if_pos (by omega), Int.toNat_natCast]
      rw [if_neg (by decide), if_neg (by decide), if_neg (by decide), if_neg (by decide), if_pos rfl]
    · skip
      refine z_tblIn cx (tgt := 71) (off := 60) dX5_subtitle_11 rfl (by decide) ?_
      refine z_aload_n cx dX5_subtitle_71 rfl ?_
      refine z_iload_n cx dX5_subtitle_72 rfl ?_
      refine z_vi cx (c_X5_laysLines rfl hs_ ho (by omega) (by omega) v4) rfl mv_X5_laysLines ml_X5_62 (by omega) (co_mod E _) rfl dX5_subtitle_73 (fun z73 G73 hz73 => ?_)
      obtain ⟨rfl, hlnhz73, hfrhz73⟩ := hz73
      refine z_iret cx dX5_subtitle_76 ?_
      have hq : FrQ G _ := fun f a i h => hfrhz73 f a i (by omega)
      refine ⟨?_, hq.rel hR, hq.cfx⟩
      unfold r_subtitle
      rw [if_pos (by omega), Int.toNat_natCast]
      rw [if_neg (by decide), if_neg (by decide), if_neg (by decide), if_neg (by decide), if_neg (by decide), if_pos rfl]
    · skip
      refine z_tblIn cx (tgt := 77) (off := 66) dX5_subtitle_11 rfl (by decide) ?_
      refine z_aload_n cx dX5_subtitle_77 rfl ?_
      refine z_iload_n cx dX5_subtitle_78 rfl ?_
      refine z_vi cx (c_X5_bestBlank rfl hs_ ho (by omega)) rfl mv_X5_bestBlank ml_X5_174 (by omega) (co_mod E _) rfl dX5_subtitle_79 (fun z79 G79 hz79 => ?_)
      obtain ⟨eG, rfl⟩ := hz79
      have eG := eG.symm
      subst eG
      refine z_iret cx dX5_subtitle_82 ?_
      refine ⟨?_, hR, CFx.rf⟩
      unfold r_subtitle
      rw [if_pos (by omega), Int.toNat_natCast]
      rw [if_neg (by decide), if_neg (by decide), if_neg (by decide), if_neg (by decide), if_neg (by decide), if_neg (by decide), if_pos rfl]
    · skip
      refine z_tblOut cx (tgt := 83) dX5_subtitle_11 (by decide) ?_
      refine z_bipush cx dX5_subtitle_83 ?_
      refine z_iret cx dX5_subtitle_85 ?_
      refine ⟨?_, hR, CFx.rf⟩
      unfold r_subtitle
      rw [if_pos (by omega), Int.toNat_natCast]
      rw [if_neg (by omega), if_neg (by omega), if_neg (by omega), if_neg (by omega), if_neg (by omega), if_neg (by omega), if_neg (by omega)]
  · skip
    refine z_iconst cx dX5_subtitle_8 ?_
    refine z_iret cx dX5_subtitle_9 ?_
    refine ⟨?_, hR, CFx.rf⟩
    unfold r_subtitle
    rw [if_neg (by omega)]
set_option maxRecDepth 100000 in
set_option maxHeartbeats 4000000 in
theorem c_X5_character {E : En} {G : Wd} {A : Ast} (hR : MRel G A) (hA : AOk A) {x y : Int} (hx : -2147483648 ≤ x ∧ x < 2147483648) (hy : -2147483648 ≤ y ∧ y < 2147483648) : Cti E yX5_character cX5_character 3 .int 2 44 [.ref (E.1 6), .int (iN (x)), .int (iN (y))] G (fun z G' => z = r_character A x y ∧ MRel G' A ∧ CFx G G') := by
  have hM := hR.1
  have hO := hA.1
  obtain ⟨m0, mV, m7, mC, mS⟩ := id hM
  obtain ⟨hOv, hOc, hOs⟩ := id hO
  have hl20 := hOs.1
  have hl12 := hOc.1
  obtain ⟨hv0, hv1, hv2, hv3, hv4, hv5⟩ := id hOv
  have v0 : G 20 0 1 = A.1.1 0 := mV 0 (by omega)
  have v1 : G 20 0 2 = A.1.1 1 := mV 1 (by omega)
  have v2 : G 20 0 3 = A.1.1 2 := mV 2 (by omega)
  have v3 : G 20 0 4 = A.1.1 3 := mV 3 (by omega)
  have v4 : G 20 0 5 = A.1.1 4 := mV 4 (by omega)
  have v5 : G 20 0 6 = A.1.1 5 := mV 5 (by omega)
  refine Cti.mk [some (.ref (E.1 6)), some (.int (iN (x))), some (.int (iN (y)))] (by decide) rfl (by intro v hv; simp only [List.mem_cons, List.not_mem_nil, or_false] at hv; rcases hv with rfl | rfl | rfl <;> rfl) (Nat.le_of_ble_eq_true rfl) ?_
  intro p l e s m args below meth c cx
  refine z_aload_n cx dX5_character_0 rfl ?_
  refine z_iload_n cx dX5_character_1 rfl ?_
  refine z_vi cx (c_X5_isSubtitle (by omega) m0) rfl mv_X5_isSubtitle ml_X5_162 (by omega) (co_mod E _) rfl dX5_character_2 (fun z2 G2 hz2 => ?_)
  obtain ⟨eG, hz2⟩ := hz2
  have eG := eG.symm
  subst eG
  refine z_if_ne cx (tgt := 10) dX5_character_5 (fun h5 => ?_) (fun h5 => ?_)
  · skip
    obtain ⟨k, rfl⟩ : ∃ k : Nat, x = k := ⟨x.toNat, by omega⟩
    have hs_ := mS (k) (by omega)
    have ho := hOs.2.1 (k) (by omega)
    have t0 := hs_.1
    have t1 := hs_.2.1
    have t2 := hs_.2.2.1
    have t3 := hs_.2.2.2
    have o1 := ho.1
    have o2 := ho.2.1
    have o3 := ho.2.2.1
    have o4 := ho.2.2.2.1
    have o5 := ho.2.2.2.2.1
    refine z_iload_n cx dX5_character_10 rfl ?_
    refine z_if_ge cx (tgt := 19) dX5_character_11 (fun h11 => ?_) (fun h11 => ?_)
    · skip
      refine z_iload_n cx dX5_character_19 rfl ?_
      refine z_aload_n cx dX5_character_20 rfl ?_
      refine z_iload_n cx dX5_character_21 rfl ?_
      refine z_iconst cx dX5_character_22 ?_
      refine z_vi cx (c_X5_of (20 + 43 * k + 2) (by omega) (by omega)) rfl mv_X5_of ml_X5_43 (by omega) (co_mod E _) rfl dX5_character_23 (fun z23 G23 hz23 => ?_)
      obtain ⟨eG, rfl⟩ := hz23
      have eG := eG.symm
      subst eG
      rw [t2]
      refine z_icmp_ge cx (tgt := 38) dX5_character_26 (fun h26 => ?_) (fun h26 => ?_)
      · skip
        refine z_bipush cx dX5_character_38 ?_
        refine z_iret cx dX5_character_40 ?_
        refine ⟨?_, hR, CFx.rf⟩
        unfold r_character
        rw [if_pos (by omega), if_neg (by omega), Int.toNat_natCast, if_neg (by omega)]
      · skip
        obtain ⟨k2, rfl⟩ : ∃ k2 : Nat, y = k2 := ⟨y.toNat, by omega⟩
        have e8 := t3 k2 (by omega)
        refine z_aload_n cx dX5_character_29 rfl ?_
        refine z_iload_n cx dX5_character_30 rfl ?_
        refine z_iload_n cx dX5_character_31 rfl ?_
        refine z_vi cx (c_X5_letter (20 + 43 * k + 3 + k2) (by omega) (by omega)) rfl mv_X5_letter ml_X5_59 (by omega) (co_mod E _) rfl dX5_character_32 (fun z32 G32 hz32 => ?_)
        obtain ⟨eG, rfl⟩ := hz32
        have eG := eG.symm
        subst eG
        refine z_goto cx (tgt := 40) dX5_character_35 ?_
        refine z_iret cx dX5_character_40 ?_
        refine ⟨?_, hR, CFx.rf⟩
        unfold r_character
        rw [if_pos (by omega), if_neg (by omega), Int.toNat_natCast, if_pos (by omega), Int.toNat_natCast]
        exact e8
    · skip
      refine z_bipush cx dX5_character_14 ?_
      refine z_goto cx (tgt := 40) dX5_character_16 ?_
      refine z_iret cx dX5_character_40 ?_
      refine ⟨?_, hR, CFx.rf⟩
      unfold r_character
      rw [if_pos (by omega), if_pos (by omega)]
  · skip
    refine z_iconst cx dX5_character_8 ?_
    refine z_iret cx dX5_character_9 ?_
    refine ⟨?_, hR, CFx.rf⟩
    unfold r_character
    rw [if_neg (by omega)]
set_option maxRecDepth 100000 in
set_option maxHeartbeats 4000000 in
theorem c_X5_line {E : En} {G : Wd} {A : Ast} (hR : MRel G A) (hA : AOk A) {x y : Int} (hx : -2147483648 ≤ x ∧ x < 2147483648) (hy : -2147483648 ≤ y ∧ y < 2147483648) : Cti E yX5_line cX5_line 3 .int 3 73 [.ref (E.1 6), .int (iN (x)), .int (iN (y))] G (fun z G' => z = r_line A x y ∧ MRel G' A ∧ CFx G G') := by
  have hM := hR.1
  have hO := hA.1
  obtain ⟨m0, mV, m7, mC, mS⟩ := id hM
  obtain ⟨hOv, hOc, hOs⟩ := id hO
  have hl20 := hOs.1
  have hl12 := hOc.1
  obtain ⟨hv0, hv1, hv2, hv3, hv4, hv5⟩ := id hOv
  have v0 : G 20 0 1 = A.1.1 0 := mV 0 (by omega)
  have v1 : G 20 0 2 = A.1.1 1 := mV 1 (by omega)
  have v2 : G 20 0 3 = A.1.1 2 := mV 2 (by omega)
  have v3 : G 20 0 4 = A.1.1 3 := mV 3 (by omega)
  have v4 : G 20 0 5 = A.1.1 4 := mV 4 (by omega)
  have v5 : G 20 0 6 = A.1.1 5 := mV 5 (by omega)
  refine Cti.mk [some (.ref (E.1 6)), some (.int (iN (x))), some (.int (iN (y)))] (by decide) rfl (by intro v hv; simp only [List.mem_cons, List.not_mem_nil, or_false] at hv; rcases hv with rfl | rfl | rfl <;> rfl) (Nat.le_of_ble_eq_true rfl) ?_
  intro p l e s m args below meth c cx
  refine z_aload_n cx dX5_line_0 rfl ?_
  refine z_iload_n cx dX5_line_1 rfl ?_
  refine z_vi cx (c_X5_isSubtitle (by omega) m0) rfl mv_X5_isSubtitle ml_X5_162 (by omega) (co_mod E _) rfl dX5_line_2 (fun z2 G2 hz2 => ?_)
  obtain ⟨eG, hz2⟩ := hz2
  have eG := eG.symm
  subst eG
  refine z_if_ne cx (tgt := 10) dX5_line_5 (fun h5 => ?_) (fun h5 => ?_)
  · skip
    obtain ⟨k, rfl⟩ : ∃ k : Nat, x = k := ⟨x.toNat, by omega⟩
    have hs_ := mS (k) (by omega)
    have ho := hOs.2.1 (k) (by omega)
    have t0 := hs_.1
    have t1 := hs_.2.1
    have t2 := hs_.2.2.1
    have t3 := hs_.2.2.2
    have o1 := ho.1
    have o2 := ho.2.1
    have o3 := ho.2.2.1
    have o4 := ho.2.2.2.1
    have o5 := ho.2.2.2.2.1
    have hll := lns_len (t := (A.1.2.2.getD k dS).2.2) (A.1.1 4) o5
    refine z_iload_n cx dX5_line_10 rfl ?_
    refine z_if_ge cx (tgt := 19) dX5_line_11 (fun h11 => ?_) (fun h11 => ?_)
    · skip
      refine z_iload_n cx dX5_line_19 rfl ?_
      refine z_aload_n cx dX5_line_20 rfl ?_
      refine z_iload_n cx dX5_line_21 rfl ?_
      refine z_vi cx (c_X5_laysLines rfl hs_ ho (by omega) (by omega) v4) rfl mv_X5_laysLines ml_X5_62 (by omega) (co_mod E _) rfl dX5_line_22 (fun z22 G22 hz22 => ?_)
      obtain ⟨rfl, hlnhz22, hfrhz22⟩ := hz22
      refine z_icmp_ge cx (tgt := 37) dX5_line_25 (fun h25 => ?_) (fun h25 => ?_)
      · skip
        refine z_bipush cx dX5_line_37 ?_
        refine z_iret cx dX5_line_39 ?_
        have hq : FrQ G _ := fun f a i h => hfrhz22 f a i (by omega)
        refine ⟨?_, hq.rel hR, hq.cfx⟩
        unfold r_line
        rw [if_pos (by omega), if_neg (by omega), Int.toNat_natCast, if_neg (by omega)]
      · skip
        obtain ⟨k2, rfl⟩ : ∃ k2 : Nat, y = k2 := ⟨y.toNat, by omega⟩
        have e8 := hlnhz22 k2 (by omega)
        refine z_aload_n cx dX5_line_28 rfl ?_
        refine g_X5_7 cx fl_X5_25 dX5_line_29 ?_
        refine z_iload_n cx dX5_line_32 rfl ?_
        refine z_iald cx (k2) (by omega) (by omega) (co_lines E _) dX5_line_33 ?_
        refine z_goto cx (tgt := 39) dX5_line_34 ?_
        refine z_iret cx dX5_line_39 ?_
        have hq : FrQ G _ := fun f a i h => hfrhz22 f a i (by omega)
        refine ⟨?_, hq.rel hR, hq.cfx⟩
        unfold r_line
        rw [if_pos (by omega), if_neg (by omega), Int.toNat_natCast, if_pos (by omega), Int.toNat_natCast]
        exact e8
    · skip
      refine z_bipush cx dX5_line_14 ?_
      refine z_goto cx (tgt := 39) dX5_line_16 ?_
      refine z_iret cx dX5_line_39 ?_
      refine ⟨?_, hR, CFx.rf⟩
      unfold r_line
      rw [if_pos (by omega), if_pos (by omega)]
  · skip
    refine z_iconst cx dX5_line_8 ?_
    refine z_iret cx dX5_line_9 ?_
    refine ⟨?_, hR, CFx.rf⟩
    unfold r_line
    rw [if_neg (by omega)]
def AtJ (F : Fm) (f : Int) (j : Nat) (z : Int) : Prop := (z = -6 ∧ ∀ i, i < j → ¬ ((F.2.2.getD i dS).1 ≤ f ∧ f < (F.2.2.getD i dS).2.1)) ∨ ∃ i : Nat, z = i ∧ i < F.2.2.length ∧ (F.2.2.getD i dS).1 ≤ f ∧ f < (F.2.2.getD i dS).2.1
set_option maxRecDepth 100000 in
set_option maxHeartbeats 4000000 in
theorem c_X5_at {E : En} {G : Wd} {A : Ast} (hR : MRel G A) (hA : AOk A) {x : Int} (hx : -2147483648 ≤ x ∧ x < 2147483648) : Cti E yX5_at cX5_at 4 .int 1 22 [.ref (E.1 6), .int (iN (x))] G (fun z G' => z = r_at A x ∧ MRel G' A ∧ CFx G G') := by
  have hM := hR.1
  have hO := hA.1
  obtain ⟨m0, mV, m7, mC, mS⟩ := id hM
  obtain ⟨hOv, hOc, hOs⟩ := id hO
  have hl20 := hOs.1
  have hl12 := hOc.1
  obtain ⟨hv0, hv1, hv2, hv3, hv4, hv5⟩ := id hOv
  have v0 : G 20 0 1 = A.1.1 0 := mV 0 (by omega)
  have v1 : G 20 0 2 = A.1.1 1 := mV 1 (by omega)
  have v2 : G 20 0 3 = A.1.1 2 := mV 2 (by omega)
  have v3 : G 20 0 4 = A.1.1 3 := mV 3 (by omega)
  have v4 : G 20 0 5 = A.1.1 4 := mV 4 (by omega)
  have v5 : G 20 0 6 = A.1.1 5 := mV 5 (by omega)
  refine Cti.mk [some (.ref (E.1 6)), some (.int (iN (x))), none, none] (by decide) rfl (by intro v hv; simp only [List.mem_cons, List.not_mem_nil, or_false] at hv; rcases hv with rfl | rfl <;> rfl) (Nat.le_of_ble_eq_true rfl) ?_
  intro p l e s m args below meth c cx
  have L19 : ∀ (n : Nat) (j : Nat) (fd : Int), (60 - j) < n → (j ≤ A.1.2.2.length) → (AtJ A.1 x j fd) → (0 ≤ x ∧ x ≤ 4999) → Z p l e (zr 1 22) s m args below meth c 4 0 0 E (Qi_ E below args s (fun z G' => z = r_at A x ∧ MRel G' A ∧ CFx G G')) G 19 [some (.ref (E.1 6)), some (.int (iN (x))), some (.int (iN (fd))), some (.int (iN ((j : Int))))] [] := by
    intro n
    induction n with
    | zero =>
      intro j fd hmu
      exact absurd hmu (Nat.not_lt_zero _)
    | succ n ih =>
      intro j fd hmu hj hN hxx
      refine z_iload_n cx dX5_at_19 rfl ?_
      refine z_aload_n cx dX5_at_20 rfl ?_
      refine g_X5_0 cx fl_X5_7 dX5_at_21 ?_
      refine z_iconst cx dX5_at_24 ?_
      refine z_iald cx (0) (by omega) (by omega) (co_s E _) dX5_at_25 ?_
      refine z_icmp_ge cx (tgt := 62) dX5_at_26 (fun h26 => ?_) (fun h26 => ?_)
      · skip
        refine z_iload_n cx dX5_at_62 rfl ?_
        refine z_iret cx dX5_at_63 ?_
        refine ⟨?_, hR, CFx.rf⟩
        unfold r_at
        rw [if_pos hxx]
        have hjl : j = A.1.2.2.length := by omega
        subst hjl
        exact (atF_of hO hN).symm
      · skip
        have hs_ := mS (j) (by omega)
        have ho := hOs.2.1 (j) (by omega)
        have t0 := hs_.1
        have t1 := hs_.2.1
        have t2 := hs_.2.2.1
        have t3 := hs_.2.2.2
        have o1 := ho.1
        have o2 := ho.2.1
        have o3 := ho.2.2.1
        have o4 := ho.2.2.2.1
        have o5 := ho.2.2.2.2.1
        refine z_iload_n cx dX5_at_29 rfl ?_
        refine z_aload_n cx dX5_at_30 rfl ?_
        refine z_iload_n cx dX5_at_31 rfl ?_
        refine z_iconst cx dX5_at_32 ?_
        refine z_vi cx (c_X5_of (20 + 43 * j) (by omega) (by omega)) rfl mv_X5_of ml_X5_43 (by omega) (co_mod E _) rfl dX5_at_33 (fun z33 G33 hz33 => ?_)
        obtain ⟨eG, rfl⟩ := hz33
        have eG := eG.symm
        subst eG
        refine z_aload_n cx dX5_at_36 rfl ?_
        refine z_iload_n cx dX5_at_37 rfl ?_
        refine z_iconst cx dX5_at_38 ?_
        refine z_vi cx (c_X5_of (20 + 43 * j + 1) (by omega) (by omega)) rfl mv_X5_of ml_X5_43 (by omega) (co_mod E _) rfl dX5_at_39 (fun z39 G39 hz39 => ?_)
        obtain ⟨eG, rfl⟩ := hz39
        have eG := eG.symm
        subst eG
        refine z_iconst cx dX5_at_42 ?_
        refine z_isub cx dX5_at_43 ?_
        rw [t0, t1]
        refine z_si cx (c_X5_in (by omega)) rfl ms_X5_in ml_X5_39 dX5_at_44 (fun z44 G44 hz44 => ?_)
        obtain ⟨eG, hz44⟩ := hz44
        have eG := eG.symm
        subst eG
        refine z_if_eq cx (tgt := 54) dX5_at_47 (fun h47 => ?_) (fun h47 => ?_)
        · skip
          refine z_iload_n cx dX5_at_54 rfl ?_
          refine z_istore_n cx dX5_at_55 ?_
          refine z_iinc cx dX5_at_56 rfl ?_
          refine z_goto cx (tgt := 19) dX5_at_59 ?_
          refine Z.locs (ih (j + 1) _ (by omega) (by omega) ?_ hxx) ⟨rfl, rfl, rfl, rfl, trivial⟩
          first
          | exact Or.inr ⟨j, rfl, by omega, by omega, by omega⟩
          | (rcases hN with ⟨g1, g2⟩ | hN
             · exact Or.inl ⟨g1, fun i h => by
                 rcases Nat.lt_succ_iff_lt_or_eq.mp h with h | rfl
                 · exact g2 i h
                 · omega⟩
             · exact Or.inr hN)
        · skip
          refine z_iload_n cx dX5_at_50 rfl ?_
          refine z_goto cx (tgt := 55) dX5_at_51 ?_
          refine z_istore_n cx dX5_at_55 ?_
          refine z_iinc cx dX5_at_56 rfl ?_
          refine z_goto cx (tgt := 19) dX5_at_59 ?_
          refine Z.locs (ih (j + 1) _ (by omega) (by omega) ?_ hxx) ⟨rfl, rfl, rfl, rfl, trivial⟩
          first
          | exact Or.inr ⟨j, rfl, by omega, by omega, by omega⟩
          | (rcases hN with ⟨g1, g2⟩ | hN
             · exact Or.inl ⟨g1, fun i h => by
                 rcases Nat.lt_succ_iff_lt_or_eq.mp h with h | rfl
                 · exact g2 i h
                 · omega⟩
             · exact Or.inr hN)
  refine z_iload_n cx dX5_at_0 rfl ?_
  refine z_iconst cx dX5_at_1 ?_
  refine z_sipush cx dX5_at_2 ?_
  refine z_si cx (c_X5_in (by omega)) rfl ms_X5_in ml_X5_39 dX5_at_5 (fun z5 G5 hz5 => ?_)
  obtain ⟨eG, hz5⟩ := hz5
  have eG := eG.symm
  subst eG
  refine z_if_ne cx (tgt := 14) dX5_at_8 (fun h8 => ?_) (fun h8 => ?_)
  · skip
    refine z_bipush cx dX5_at_14 ?_
    refine z_istore_n cx dX5_at_16 ?_
    refine z_iconst cx dX5_at_17 ?_
    refine z_istore_n cx dX5_at_18 ?_
    refine Z.locs (L19 _ (0) (-6) (Nat.lt_succ_self _) (by omega) (Or.inl ⟨rfl, fun i h => absurd h (Nat.not_lt_zero _)⟩) (by omega)) ⟨rfl, rfl, rfl, rfl, trivial⟩
  · skip
    refine z_bipush cx dX5_at_11 ?_
    refine z_iret cx dX5_at_13 ?_
    refine ⟨?_, hR, CFx.rf⟩
    unfold r_at
    rw [if_neg (by omega)]
set_option maxRecDepth 100000 in
set_option maxHeartbeats 4000000 in
theorem c_X5_cutAt {E : En} {G : Wd} {A : Ast} (hR : MRel G A) (hA : AOk A) {x : Int} (hx : -2147483648 ≤ x ∧ x < 2147483648) : Cti E yX5_cutAt cX5_cutAt 2 .int 0 0 [.ref (E.1 6), .int (iN (x))] G (fun z G' => z = r_cutAt A x ∧ MRel G' A ∧ CFx G G') := by
  have hM := hR.1
  have hO := hA.1
  obtain ⟨m0, mV, m7, mC, mS⟩ := id hM
  obtain ⟨hOv, hOc, hOs⟩ := id hO
  have hl20 := hOs.1
  have hl12 := hOc.1
  obtain ⟨hv0, hv1, hv2, hv3, hv4, hv5⟩ := id hOv
  have v0 : G 20 0 1 = A.1.1 0 := mV 0 (by omega)
  have v1 : G 20 0 2 = A.1.1 1 := mV 1 (by omega)
  have v2 : G 20 0 3 = A.1.1 2 := mV 2 (by omega)
  have v3 : G 20 0 4 = A.1.1 3 := mV 3 (by omega)
  have v4 : G 20 0 5 = A.1.1 4 := mV 4 (by omega)
  have v5 : G 20 0 6 = A.1.1 5 := mV 5 (by omega)
  refine Cti.mk [some (.ref (E.1 6)), some (.int (iN (x)))] (by decide) rfl (by intro v hv; simp only [List.mem_cons, List.not_mem_nil, or_false] at hv; rcases hv with rfl | rfl <;> rfl) (Nat.le_of_ble_eq_true rfl) ?_
  intro p l e s m args below meth c cx
  refine z_iload_n cx dX5_cutAt_0 rfl ?_
  refine z_if_ge cx (tgt := 9) dX5_cutAt_1 (fun h1 => ?_) (fun h1 => ?_)
  · skip
    refine z_iload_n cx dX5_cutAt_9 rfl ?_
    refine z_aload_n cx dX5_cutAt_10 rfl ?_
    refine g_X5_0 cx fl_X5_7 dX5_cutAt_11 ?_
    refine z_bipush cx dX5_cutAt_14 ?_
    refine z_iald cx (7) (by omega) (by omega) (co_s E _) dX5_cutAt_16 ?_
    refine z_icmp_ge cx (tgt := 32) dX5_cutAt_17 (fun h17 => ?_) (fun h17 => ?_)
    · skip
      refine z_bipush cx dX5_cutAt_32 ?_
      refine z_iret cx dX5_cutAt_34 ?_
      refine ⟨?_, hR, CFx.rf⟩
      unfold r_cutAt
      rw [if_neg (by omega), if_neg (by omega)]
    · skip
      obtain ⟨k, rfl⟩ : ∃ k : Nat, x = k := ⟨x.toNat, by omega⟩
      have ec := mC k (by omega)
      refine z_aload_n cx dX5_cutAt_20 rfl ?_
      refine g_X5_0 cx fl_X5_7 dX5_cutAt_21 ?_
      refine z_bipush cx dX5_cutAt_24 ?_
      refine z_iload_n cx dX5_cutAt_26 rfl ?_
      refine z_iadd cx dX5_cutAt_27 ?_
      refine z_iald cx (8 + k) (by omega) (by omega) (co_s E _) dX5_cutAt_28 ?_
      refine z_goto cx (tgt := 34) dX5_cutAt_29 ?_
      refine z_iret cx dX5_cutAt_34 ?_
      refine ⟨?_, hR, CFx.rf⟩
      unfold r_cutAt
      rw [if_neg (by omega), if_pos (by omega), Int.toNat_natCast]
      exact ec
  · skip
    refine z_bipush cx dX5_cutAt_4 ?_
    refine z_goto cx (tgt := 34) dX5_cutAt_6 ?_
    refine z_iret cx dX5_cutAt_34 ?_
    refine ⟨?_, hR, CFx.rf⟩
    unfold r_cutAt
    rw [if_pos (by omega)]
set_option maxRecDepth 100000 in
set_option maxHeartbeats 4000000 in
theorem c_X5_setting {E : En} {G : Wd} {A : Ast} (hR : MRel G A) (hA : AOk A) {x : Int} (hx : -2147483648 ≤ x ∧ x < 2147483648) : Cti E yX5_setting cX5_setting 2 .int 1 22 [.ref (E.1 6), .int (iN (x))] G (fun z G' => z = r_setting A x ∧ MRel G' A ∧ CFx G G') := by
  have hM := hR.1
  have hO := hA.1
  obtain ⟨m0, mV, m7, mC, mS⟩ := id hM
  obtain ⟨hOv, hOc, hOs⟩ := id hO
  have hl20 := hOs.1
  have hl12 := hOc.1
  obtain ⟨hv0, hv1, hv2, hv3, hv4, hv5⟩ := id hOv
  have v0 : G 20 0 1 = A.1.1 0 := mV 0 (by omega)
  have v1 : G 20 0 2 = A.1.1 1 := mV 1 (by omega)
  have v2 : G 20 0 3 = A.1.1 2 := mV 2 (by omega)
  have v3 : G 20 0 4 = A.1.1 3 := mV 3 (by omega)
  have v4 : G 20 0 5 = A.1.1 4 := mV 4 (by omega)
  have v5 : G 20 0 6 = A.1.1 5 := mV 5 (by omega)
  refine Cti.mk [some (.ref (E.1 6)), some (.int (iN (x)))] (by decide) rfl (by intro v hv; simp only [List.mem_cons, List.not_mem_nil, or_false] at hv; rcases hv with rfl | rfl <;> rfl) (Nat.le_of_ble_eq_true rfl) ?_
  intro p l e s m args below meth c cx
  refine z_iload_n cx dX5_setting_0 rfl ?_
  refine z_iconst cx dX5_setting_1 ?_
  refine z_iconst cx dX5_setting_2 ?_
  refine z_si cx (c_X5_in (by omega)) rfl ms_X5_in ml_X5_39 dX5_setting_3 (fun z3 G3 hz3 => ?_)
  obtain ⟨eG, hz3⟩ := hz3
  have eG := eG.symm
  subst eG
  refine z_if_eq cx (tgt := 17) dX5_setting_6 (fun h6 => ?_) (fun h6 => ?_)
  · skip
    refine z_iconst cx dX5_setting_17 ?_
    refine z_iret cx dX5_setting_18 ?_
    refine ⟨?_, hR, CFx.rf⟩
    unfold r_setting
    rw [if_neg (by omega)]
  · skip
    obtain ⟨k, rfl⟩ : ∃ k : Nat, x = k := ⟨x.toNat, by omega⟩
    have ec := mV k (by omega)
    refine z_aload_n cx dX5_setting_9 rfl ?_
    refine z_iload_n cx dX5_setting_10 rfl ?_
    refine z_vi cx (c_X5_its (1 + k) (by omega) (by omega)) rfl mv_X5_its ml_X5_47 (by omega) (co_mod E _) rfl dX5_setting_11 (fun z11 G11 hz11 => ?_)
    obtain ⟨eG, rfl⟩ := hz11
    have eG := eG.symm
    subst eG
    refine z_goto cx (tgt := 18) dX5_setting_14 ?_
    refine z_iret cx dX5_setting_18 ?_
    refine ⟨?_, hR, CFx.rf⟩
    unfold r_setting
    rw [if_pos (by omega), Int.toNat_natCast]
    exact ec
set_option maxRecDepth 100000 in
set_option maxHeartbeats 4000000 in
theorem c_X5_faulty {E : En} {G : Wd} {A : Ast} (hR : MRel G A) (hA : AOk A) {x : Int} (hx : -2147483648 ≤ x ∧ x < 2147483648) : Cti E yX5_faulty cX5_faulty 3 .int 6 143 [.ref (E.1 6), .int (iN (x))] G (fun z G' => z = r_faulty A x ∧ MRel G' A ∧ CFx G G') := by
  have hM := hR.1
  have hO := hA.1
  obtain ⟨m0, mV, m7, mC, mS⟩ := id hM
  obtain ⟨hOv, hOc, hOs⟩ := id hO
  have hl20 := hOs.1
  have hl12 := hOc.1
  obtain ⟨hv0, hv1, hv2, hv3, hv4, hv5⟩ := id hOv
  have v0 : G 20 0 1 = A.1.1 0 := mV 0 (by omega)
  have v1 : G 20 0 2 = A.1.1 1 := mV 1 (by omega)
  have v2 : G 20 0 3 = A.1.1 2 := mV 2 (by omega)
  have v3 : G 20 0 4 = A.1.1 3 := mV 3 (by omega)
  have v4 : G 20 0 5 = A.1.1 4 := mV 4 (by omega)
  have v5 : G 20 0 6 = A.1.1 5 := mV 5 (by omega)
  refine Cti.mk [some (.ref (E.1 6)), some (.int (iN (x))), none] (by decide) rfl (by intro v hv; simp only [List.mem_cons, List.not_mem_nil, or_false] at hv; rcases hv with rfl | rfl <;> rfl) (Nat.le_of_ble_eq_true rfl) ?_
  intro p l e s m args below meth c cx
  have L42 : ∀ (zz : Int), (zz = 1 ∧ (x = 0 ∨ x = 1 ∨ x = 2 ∨ x = 4 ∨ x = 8 ∨ x = 16 ∨ x = 32) ∨ zz = 0 ∧ ¬ (x = 0 ∨ x = 1 ∨ x = 2 ∨ x = 4 ∨ x = 8 ∨ x = 16 ∨ x = 32)) → Z p l e (zr 6 143) s m args below meth c 3 0 0 E (Qi_ E below args s (fun z G' => z = r_faulty A x ∧ MRel G' A ∧ CFx G G')) G 42 [some (.ref (E.1 6)), some (.int (iN (x))), none] [.int (iN (zz))] := by
    intro zz hz
    refine z_istore_n cx dX5_faulty_42 ?_
    refine z_iload_n cx dX5_faulty_43 rfl ?_
    refine z_if_eq cx (tgt := 55) dX5_faulty_44 (fun h44 => ?_) (fun h44 => ?_)
    · skip
      refine z_bipush cx dX5_faulty_55 ?_
      refine z_iret cx dX5_faulty_57 ?_
      refine ⟨?_, hR, CFx.rf⟩
      unfold r_faulty
      rw [if_neg (by omega), if_neg (by omega)]
    · skip
      refine z_aload_n cx dX5_faulty_47 rfl ?_
      refine z_iload_n cx dX5_faulty_48 rfl ?_
      refine z_vi cx (c_X5_faultyBy hM hO (by omega)) rfl mv_X5_faultyBy ml_X5_192 (by omega) (co_mod E _) rfl dX5_faulty_49 (fun z49 G49 hz49 => ?_)
      obtain ⟨rfl, hfrhz49⟩ := hz49
      refine z_goto cx (tgt := 57) dX5_faulty_52 ?_
      refine z_iret cx dX5_faulty_57 ?_
      have hq : FrQ G _ := fun f a i h => hfrhz49 f a i (by omega)
      refine ⟨?_, hq.rel hR, hq.cfx⟩
      unfold r_faulty fyR
      by_cases q : x = 0
      · rw [if_pos q, if_pos q]
      · rw [if_neg q, if_neg q, if_pos (by omega)]
  refine z_iload_n cx dX5_faulty_0 rfl ?_
  refine z_if_eq cx (tgt := 37) dX5_faulty_1 (fun h1 => ?_) (fun h1 => ?_)
  · skip
    refine z_iconst cx dX5_faulty_37 ?_
    refine z_goto cx (tgt := 42) dX5_faulty_38 ?_
    refine Z.locs (L42 _ (by omega)) ⟨rfl, rfl, trivial⟩
  · skip
    refine z_iload_n cx dX5_faulty_4 rfl ?_
    refine z_iconst cx dX5_faulty_5 ?_
    refine z_icmp_eq cx (tgt := 37) dX5_faulty_6 (fun h6 => ?_) (fun h6 => ?_)
    · skip
      refine z_iconst cx dX5_faulty_37 ?_
      refine z_goto cx (tgt := 42) dX5_faulty_38 ?_
      refine Z.locs (L42 _ (by omega)) ⟨rfl, rfl, trivial⟩
    · skip
      refine z_iload_n cx dX5_faulty_9 rfl ?_
      refine z_iconst cx dX5_faulty_10 ?_
      refine z_icmp_eq cx (tgt := 37) dX5_faulty_11 (fun h11 => ?_) (fun h11 => ?_)
      · skip
        refine z_iconst cx dX5_faulty_37 ?_
        refine z_goto cx (tgt := 42) dX5_faulty_38 ?_
        refine Z.locs (L42 _ (by omega)) ⟨rfl, rfl, trivial⟩
      · skip
        refine z_iload_n cx dX5_faulty_14 rfl ?_
        refine z_iconst cx dX5_faulty_15 ?_
        refine z_icmp_eq cx (tgt := 37) dX5_faulty_16 (fun h16 => ?_) (fun h16 => ?_)
        · skip
          refine z_iconst cx dX5_faulty_37 ?_
          refine z_goto cx (tgt := 42) dX5_faulty_38 ?_
          refine Z.locs (L42 _ (by omega)) ⟨rfl, rfl, trivial⟩
        · skip
          refine z_iload_n cx dX5_faulty_19 rfl ?_
          refine z_bipush cx dX5_faulty_20 ?_
          refine z_icmp_eq cx (tgt := 37) dX5_faulty_22 (fun h22 => ?_) (fun h22 => ?_)
          · skip
            refine z_iconst cx dX5_faulty_37 ?_
            refine z_goto cx (tgt := 42) dX5_faulty_38 ?_
            refine Z.locs (L42 _ (by omega)) ⟨rfl, rfl, trivial⟩
          · skip
            refine z_iload_n cx dX5_faulty_25 rfl ?_
            refine z_bipush cx dX5_faulty_26 ?_
            refine z_icmp_eq cx (tgt := 37) dX5_faulty_28 (fun h28 => ?_) (fun h28 => ?_)
            · skip
              refine z_iconst cx dX5_faulty_37 ?_
              refine z_goto cx (tgt := 42) dX5_faulty_38 ?_
              refine Z.locs (L42 _ (by omega)) ⟨rfl, rfl, trivial⟩
            · skip
              refine z_iload_n cx dX5_faulty_31 rfl ?_
              refine z_bipush cx dX5_faulty_32 ?_
              refine z_icmp_ne cx (tgt := 41) dX5_faulty_34 (fun h34 => ?_) (fun h34 => ?_)
              · skip
                refine z_iconst cx dX5_faulty_41 ?_
                refine Z.locs (L42 _ (by omega)) ⟨rfl, rfl, trivial⟩
              · skip
                refine z_iconst cx dX5_faulty_37 ?_
                refine z_goto cx (tgt := 42) dX5_faulty_38 ?_
                refine Z.locs (L42 _ (by omega)) ⟨rfl, rfl, trivial⟩
set_option maxRecDepth 100000 in
set_option maxHeartbeats 4000000 in
theorem c_X5_shown {E : En} {G : Wd} {A : Ast} (hR : MRel G A) (hA : AOk A) : Cti E yX5_shown cX5_shown 1 .int 3 65 [.ref (E.1 6)] G (fun z G' => z = frS A.1 ∧ MRel G' A ∧ CFx G G') := by
  have hM := hR.1
  have hO := hA.1
  obtain ⟨m0, mV, m7, mC, mS⟩ := id hM
  obtain ⟨hOv, hOc, hOs⟩ := id hO
  have hl20 := hOs.1
  have hl12 := hOc.1
  obtain ⟨hv0, hv1, hv2, hv3, hv4, hv5⟩ := id hOv
  have v0 : G 20 0 1 = A.1.1 0 := mV 0 (by omega)
  have v1 : G 20 0 2 = A.1.1 1 := mV 1 (by omega)
  have v2 : G 20 0 3 = A.1.1 2 := mV 2 (by omega)
  have v3 : G 20 0 4 = A.1.1 3 := mV 3 (by omega)
  have v4 : G 20 0 5 = A.1.1 4 := mV 4 (by omega)
  have v5 : G 20 0 6 = A.1.1 5 := mV 5 (by omega)
  refine Cti.mk [some (.ref (E.1 6))] (by decide) rfl (by intro v hv; simp only [List.mem_cons, List.not_mem_nil, or_false] at hv; subst hv; rfl) (Nat.le_of_ble_eq_true rfl) ?_
  intro p l e s m args below meth c cx
  refine z_aload_n cx dX5_shown_0 rfl ?_
  refine z_vi cx (c_X5_allFrames hM hO) rfl mv_X5_allFrames ml_X5_195 (by omega) (co_mod E _) rfl dX5_shown_1 (fun z1 G1 hz1 => ?_)
  obtain ⟨eG, rfl⟩ := hz1
  have eG := eG.symm
  subst eG
  refine z_iret cx dX5_shown_4 ?_
  refine ⟨?_, hR, CFx.rf⟩
  exact rfl
set_option maxRecDepth 100000 in
set_option maxHeartbeats 4000000 in
theorem c_X5_unread {E : En} {G : Wd} {A : Ast} (hR : MRel G A) (hA : AOk A) {x : Int} (hx : -2147483648 ≤ x ∧ x < 2147483648) : Cti E yX5_unread cX5_unread 2 .int 4 88 [.ref (E.1 6), .int (iN (x))] G (fun z G' => z = r_unread A x ∧ MRel G' A ∧ CFx G G') := by
  have hM := hR.1
  have hO := hA.1
  obtain ⟨m0, mV, m7, mC, mS⟩ := id hM
  obtain ⟨hOv, hOc, hOs⟩ := id hO
  have hl20 := hOs.1
  have hl12 := hOc.1
  obtain ⟨hv0, hv1, hv2, hv3, hv4, hv5⟩ := id hOv
  have v0 : G 20 0 1 = A.1.1 0 := mV 0 (by omega)
  have v1 : G 20 0 2 = A.1.1 1 := mV 1 (by omega)
  have v2 : G 20 0 3 = A.1.1 2 := mV 2 (by omega)
  have v3 : G 20 0 4 = A.1.1 3 := mV 3 (by omega)
  have v4 : G 20 0 5 = A.1.1 4 := mV 4 (by omega)
  have v5 : G 20 0 6 = A.1.1 5 := mV 5 (by omega)
  refine Cti.mk [some (.ref (E.1 6)), some (.int (iN (x)))] (by decide) rfl (by intro v hv; simp only [List.mem_cons, List.not_mem_nil, or_false] at hv; rcases hv with rfl | rfl <;> rfl) (Nat.le_of_ble_eq_true rfl) ?_
  intro p l e s m args below meth c cx
  refine z_iload_n cx dX5_unread_0 rfl ?_
  refine z_iconst cx dX5_unread_1 ?_
  refine z_bipush cx dX5_unread_2 ?_
  refine z_si cx (c_X5_in (by omega)) rfl ms_X5_in ml_X5_39 dX5_unread_4 (fun z4 G4 hz4 => ?_)
  obtain ⟨eG, hz4⟩ := hz4
  have eG := eG.symm
  subst eG
  refine z_if_eq cx (tgt := 18) dX5_unread_7 (fun h7 => ?_) (fun h7 => ?_)
  · skip
    refine z_bipush cx dX5_unread_18 ?_
    refine z_iret cx dX5_unread_20 ?_
    refine ⟨?_, hR, CFx.rf⟩
    unfold r_unread
    rw [if_neg (by omega)]
  · skip
    refine z_aload_n cx dX5_unread_10 rfl ?_
    refine z_iload_n cx dX5_unread_11 rfl ?_
    refine z_vi cx (c_X5_unreadBy hM hO (by omega)) rfl mv_X5_unreadBy ml_X5_199 (by omega) (co_mod E _) rfl dX5_unread_12 (fun z12 G12 hz12 => ?_)
    obtain ⟨eG, rfl⟩ := hz12
    have eG := eG.symm
    subst eG
    refine z_goto cx (tgt := 20) dX5_unread_15 ?_
    refine z_iret cx dX5_unread_20 ?_
    refine ⟨?_, hR, CFx.rf⟩
    unfold r_unread
    rw [if_pos (by omega)]
set_option maxRecDepth 100000 in
set_option maxHeartbeats 4000000 in
theorem c_X5_ifSeated {E : En} {G : Wd} {A : Ast} (hR : MRel G A) (hA : AOk A) {x : Int} (hx : -2147483648 ≤ x ∧ x < 2147483648) : Cti E yX5_ifSeated cX5_ifSeated 4 .int 6 143 [.ref (E.1 6), .int (iN (x))] G (fun z G' => z = r_ifSeated A x ∧ MRel G' A ∧ CFx G G') := by
  have hM := hR.1
  have hO := hA.1
  obtain ⟨m0, mV, m7, mC, mS⟩ := id hM
  obtain ⟨hOv, hOc, hOs⟩ := id hO
  have hl20 := hOs.1
  have hl12 := hOc.1
  obtain ⟨hv0, hv1, hv2, hv3, hv4, hv5⟩ := id hOv
  have v0 : G 20 0 1 = A.1.1 0 := mV 0 (by omega)
  have v1 : G 20 0 2 = A.1.1 1 := mV 1 (by omega)
  have v2 : G 20 0 3 = A.1.1 2 := mV 2 (by omega)
  have v3 : G 20 0 4 = A.1.1 3 := mV 3 (by omega)
  have v4 : G 20 0 5 = A.1.1 4 := mV 4 (by omega)
  have v5 : G 20 0 6 = A.1.1 5 := mV 5 (by omega)
  refine Cti.mk [some (.ref (E.1 6)), some (.int (iN (x))), none, none] (by decide) rfl (by intro v hv; simp only [List.mem_cons, List.not_mem_nil, or_false] at hv; rcases hv with rfl | rfl <;> rfl) (Nat.le_of_ble_eq_true rfl) ?_
  intro p l e s m args below meth c cx
  have L55 : ∀ (zz : Int) (G1 : Wd), (zz = r_ifSeated A x) → (∀ j, j < 880 → G1 21 0 j = G 20 0 j) → (∀ f a i, ¬ (a = 0 ∧ (f = 20 ∨ f = 21 ∨ f = 25)) → G1 f a i = G f a i) → Z p l e (zr 6 143) s m args below meth c 4 0 0 E (Qi_ E below args s (fun z G' => z = r_ifSeated A x ∧ MRel G' A ∧ CFx G G')) G1 55 [some (.ref (E.1 6)), some (.int (iN (x))), none, none] [.int (iN (zz))] := by
    intro zz G1 hzz h21 ho
    refine z_istore_n cx dX5_ifSeated_55 ?_
    refine z_aload_n cx dX5_ifSeated_56 rfl ?_
    refine g_X5_1 cx fl_X5_13 dX5_ifSeated_57 ?_
    refine z_iconst cx dX5_ifSeated_60 ?_
    refine z_aload_n cx dX5_ifSeated_61 rfl ?_
    refine g_X5_0 cx fl_X5_7 dX5_ifSeated_62 ?_
    refine z_iconst cx dX5_ifSeated_65 ?_
    refine z_sv cx (c_X5_copies (c0 := 8) (c1 := 7) (n0 := 880) (n1 := 880) (f0 := 21) (f1 := 20) 0 0 rfl rfl (by omega) rfl (co_aside E) (co_s E)) rfl ms_X5_copies ml_X5_31 dX5_ifSeated_66 (fun G66 hz66 => ?_)
    subst hz66
    refine z_iload_n cx dX5_ifSeated_69 rfl ?_
    refine z_iret cx dX5_ifSeated_70 ?_
    refine ⟨hzz, back_rel hR hA (fun j hj => ?_) (fun f a i h => ?_)⟩
    · rw [gcp_eq, if_pos ⟨rfl, rfl, by omega, by omega⟩, show 0 + (j - 0) = j by omega]
      exact h21 j hj
    · rw [gcp_eq, if_neg (by omega)]
      exact ho f a i h
  refine z_iload_n cx dX5_ifSeated_0 rfl ?_
  refine z_iconst cx dX5_ifSeated_1 ?_
  refine z_iconst cx dX5_ifSeated_2 ?_
  refine z_si cx (c_X5_in (by omega)) rfl ms_X5_in ml_X5_39 dX5_ifSeated_3 (fun z3 G3 hz3 => ?_)
  obtain ⟨eG, hz3⟩ := hz3
  have eG := eG.symm
  subst eG
  refine z_if_ne cx (tgt := 12) dX5_ifSeated_6 (fun h6 => ?_) (fun h6 => ?_)
  · skip
    refine z_aload_n cx dX5_ifSeated_12 rfl ?_
    refine g_X5_0 cx fl_X5_7 dX5_ifSeated_13 ?_
    refine z_iconst cx dX5_ifSeated_16 ?_
    refine z_aload_n cx dX5_ifSeated_17 rfl ?_
    refine g_X5_1 cx fl_X5_13 dX5_ifSeated_18 ?_
    refine z_iconst cx dX5_ifSeated_21 ?_
    refine z_sv cx (c_X5_copies (c0 := 7) (c1 := 8) (n0 := 880) (n1 := 880) (f0 := 20) (f1 := 21) 0 0 rfl rfl (by omega) rfl (co_s E) (co_aside E)) rfl ms_X5_copies ml_X5_31 dX5_ifSeated_22 (fun G22 hz22 => ?_)
    subst hz22
    have hM2 : MFilm ((gcp G 21 0 20 0 0 0 880) 20 0) A.1 := hM.of hO (fun j _ => by rw [gcp_eq, if_neg (by omega)])
    refine z_aload_n cx dX5_ifSeated_25 rfl ?_
    refine z_vi cx (c_X5_seatsAll hM2 hO) rfl mv_X5_seatsAll ml_X5_180 (by omega) (co_mod E _) rfl dX5_ifSeated_26 (fun z26 G26 hz26 => ?_)
    obtain ⟨hz26v, hz26⟩ := hz26
    subst hz26v
    have hz26 : True ∧ _ := ⟨trivial, hz26⟩
    have hOs2 := seatF_ok (g := A.1.1 1) hO (by omega)
    have hsl : (seatF A.1 (A.1.1 1)).2.2.length = A.1.2.2.length := seatN_len _ _ _
    refine z_istore_n cx dX5_ifSeated_29 ?_
    refine z_iload_n cx dX5_ifSeated_30 rfl ?_
    refine z_if_ne cx (tgt := 38) dX5_ifSeated_31 (fun h31 => ?_) (fun h31 => ?_)
    · skip
      refine z_iload_n cx dX5_ifSeated_38 rfl ?_
      refine z_iconst cx dX5_ifSeated_39 ?_
      refine z_icmp_ne cx (tgt := 51) dX5_ifSeated_40 (fun h40 => ?_) (fun h40 => ?_)
      · skip
        refine z_aload_n cx dX5_ifSeated_51 rfl ?_
        refine z_vi cx (c_X5_allFrames hz26.2.1 hOs2) rfl mv_X5_allFrames ml_X5_195 (by omega) (co_mod E _) rfl dX5_ifSeated_52 (fun z52 G52 hz52 => ?_)
        obtain ⟨eG, rfl⟩ := hz52
        have eG := eG.symm
        subst eG
        refine Z.locs (L55 _ _ ?_ ?_ ?_) ⟨rfl, rfl, trivial⟩
        · first
          | (unfold r_ifSeated; rw [if_pos (by omega), if_pos (by omega)]; done)
          | (unfold r_ifSeated fyR; rw [if_pos rfl, if_pos (by omega), if_neg (by omega), if_pos (by omega), hsl]; done)
          | (unfold r_ifSeated; rw [if_pos (by omega), if_neg (by omega), if_neg (by omega)]; done)
        · intro j hj
          first
          | (rw [hfrhz45 21 0 j (by omega), hz26.2.2 21 0 j (by omega), gcp_eq, if_pos ⟨rfl, rfl, by omega, by omega⟩]; simp; done)
          | (rw [hz26.2.2 21 0 j (by omega), gcp_eq, if_pos ⟨rfl, rfl, by omega, by omega⟩]; simp; done)
        · intro f a j hj
          first
          | (rw [hfrhz45 f a j (by omega), hz26.2.2 f a j (by omega), gcp_eq, if_neg (by omega)]; done)
          | (rw [hz26.2.2 f a j (by omega), gcp_eq, if_neg (by omega)]; done)
      · skip
        refine z_aload_n cx dX5_ifSeated_43 rfl ?_
        refine z_iconst cx dX5_ifSeated_44 ?_
        refine z_vi cx (c_X5_faultyBy hz26.2.1 hOs2 (Or.inl rfl)) rfl mv_X5_faultyBy ml_X5_192 (by omega) (co_mod E _) rfl dX5_ifSeated_45 (fun z45 G45 hz45 => ?_)
        obtain ⟨rfl, hfrhz45⟩ := hz45
        refine z_goto cx (tgt := 55) dX5_ifSeated_48 ?_
        refine Z.locs (L55 _ _ ?_ ?_ ?_) ⟨rfl, rfl, trivial⟩
        · first
          | (unfold r_ifSeated; rw [if_pos (by omega), if_pos (by omega)]; done)
          | (unfold r_ifSeated fyR; rw [if_pos rfl, if_pos (by omega), if_neg (by omega), if_pos (by omega), hsl]; done)
          | (unfold r_ifSeated; rw [if_pos (by omega), if_neg (by omega), if_neg (by omega)]; done)
        · intro j hj
          first
          | (rw [hfrhz45 21 0 j (by omega), hz26.2.2 21 0 j (by omega), gcp_eq, if_pos ⟨rfl, rfl, by omega, by omega⟩]; simp; done)
          | (rw [hz26.2.2 21 0 j (by omega), gcp_eq, if_pos ⟨rfl, rfl, by omega, by omega⟩]; simp; done)
        · intro f a j hj
          first
          | (rw [hfrhz45 f a j (by omega), hz26.2.2 f a j (by omega), gcp_eq, if_neg (by omega)]; done)
          | (rw [hz26.2.2 f a j (by omega), gcp_eq, if_neg (by omega)]; done)
    · skip
      refine z_iload_n cx dX5_ifSeated_34 rfl ?_
      refine z_goto cx (tgt := 55) dX5_ifSeated_35 ?_
      refine Z.locs (L55 _ _ ?_ ?_ ?_) ⟨rfl, rfl, trivial⟩
      · first
        | (unfold r_ifSeated; rw [if_pos (by omega), if_pos (by omega)]; done)
        | (unfold r_ifSeated fyR; rw [if_pos rfl, if_pos (by omega), if_neg (by omega), if_pos (by omega), hsl]; done)
        | (unfold r_ifSeated; rw [if_pos (by omega), if_neg (by omega), if_neg (by omega)]; done)
      · intro j hj
        first
        | (rw [hfrhz45 21 0 j (by omega), hz26.2.2 21 0 j (by omega), gcp_eq, if_pos ⟨rfl, rfl, by omega, by omega⟩]; simp; done)
        | (rw [hz26.2.2 21 0 j (by omega), gcp_eq, if_pos ⟨rfl, rfl, by omega, by omega⟩]; simp; done)
      · intro f a j hj
        first
        | (rw [hfrhz45 f a j (by omega), hz26.2.2 f a j (by omega), gcp_eq, if_neg (by omega)]; done)
        | (rw [hz26.2.2 f a j (by omega), gcp_eq, if_neg (by omega)]; done)
  · skip
    refine z_bipush cx dX5_ifSeated_9 ?_
    refine z_iret cx dX5_ifSeated_11 ?_
    refine ⟨?_, hR, CFx.rf⟩
    unfold r_ifSeated
    rw [if_neg (by omega)]
set_option maxRecDepth 100000 in
set_option maxHeartbeats 4000000 in
theorem c_X5_bestGap {E : En} {G : Wd} {A : Ast} (hR : MRel G A) (hA : AOk A) : Cti E yX5_bestGap cX5_bestGap 6 .int 4 94 [.ref (E.1 6)] G (fun z G' => z = (bgS A.1 21).1 ∧ MRel G' A ∧ CFx G G') := by
  have hM := hR.1
  have hO := hA.1
  obtain ⟨m0, mV, m7, mC, mS⟩ := id hM
  obtain ⟨hOv, hOc, hOs⟩ := id hO
  have hl20 := hOs.1
  have hl12 := hOc.1
  obtain ⟨hv0, hv1, hv2, hv3, hv4, hv5⟩ := id hOv
  have v0 : G 20 0 1 = A.1.1 0 := mV 0 (by omega)
  have v1 : G 20 0 2 = A.1.1 1 := mV 1 (by omega)
  have v2 : G 20 0 3 = A.1.1 2 := mV 2 (by omega)
  have v3 : G 20 0 4 = A.1.1 3 := mV 3 (by omega)
  have v4 : G 20 0 5 = A.1.1 4 := mV 4 (by omega)
  have v5 : G 20 0 6 = A.1.1 5 := mV 5 (by omega)
  refine Cti.mk [some (.ref (E.1 6)), none, none, none, none, none] (by decide) rfl (by intro v hv; simp only [List.mem_cons, List.not_mem_nil, or_false] at hv; subst hv; rfl) (Nat.le_of_ble_eq_true rfl) ?_
  intro p l e s m args below meth c cx
  have L20 : ∀ (n : Nat) (jg : Nat) (bb ff : Int) (G1 : Wd), (60 - jg) < n → (jg ≤ 21) → (bgS A.1 jg = (bb, ff)) → (0 ≤ bb ∧ bb ≤ 20 ∧ 0 ≤ ff ∧ ff ≤ 21) → (∀ j, j < 880 → G1 20 0 j = G 20 0 j) → (∀ j, j < 880 → G1 21 0 j = G 20 0 j) → (∀ f a i, ¬ (a = 0 ∧ (f = 20 ∨ f = 21 ∨ f = 25)) → G1 f a i = G f a i) → Z p l e (zr 4 94) s m args below meth c 6 0 0 E (Qi_ E below args s (fun z G' => z = (bgS A.1 21).1 ∧ MRel G' A ∧ CFx G G')) G1 20 [some (.ref (E.1 6)), some (.int (iN (bb))), some (.int (iN (ff))), some (.int (iN ((jg : Int)))), none, none] [] := by
    intro n
    induction n with
    | zero =>
      intro jg bb ff G1 hmu
      exact absurd hmu (Nat.not_lt_zero _)
    | succ n ih =>
      intro jg bb ff G1 hmu hg hbg hbb h20 h21 ho
      refine z_iload_n cx dX5_bestGap_20 rfl ?_
      refine z_bipush cx dX5_bestGap_21 ?_
      refine z_icmp_gt cx (tgt := 94) dX5_bestGap_23 (fun h23 => ?_) (fun h23 => ?_)
      · skip
        refine z_iload_n cx dX5_bestGap_94 rfl ?_
        refine z_iret cx dX5_bestGap_95 ?_
        have hjl : jg = 21 := by omega
        subst hjl
        rw [hbg]
        exact ⟨rfl, back_rel hR hA h20 ho⟩
      · skip
        refine z_aload_n cx dX5_bestGap_26 rfl ?_
        refine g_X5_0 cx fl_X5_7 dX5_bestGap_27 ?_
        refine z_iconst cx dX5_bestGap_30 ?_
        refine z_iload_n cx dX5_bestGap_31 rfl ?_
        refine z_iast cx (2) (by omega) (by omega) rfl (fun G => co_s E G) dX5_bestGap_32 ?_
        have hM3 : MFilm ((gup G1 20 0 2 (jg : Int)) 20 0) (gF A.1 (jg : Int)) := mval (k := 1) (v := (jg : Int)) hM hO (by omega) (by rw [gup_s]) (fun j hj hj2 => by rw [gup_i _ _ _ _ _ (by omega)]; exact h20 j hj)
        have hOg := gF_ok (g := (jg : Int)) hO (by omega)
        refine z_aload_n cx dX5_bestGap_33 rfl ?_
        refine z_vi cx (c_X5_seatsAll hM3 hOg) rfl mv_X5_seatsAll ml_X5_180 (by omega) (co_mod E _) rfl dX5_bestGap_34 (fun z34 G34 hz34 => ?_)
        obtain ⟨hz34v, hz34⟩ := hz34
        subst hz34v
        have hz34 : True ∧ _ := ⟨trivial, hz34⟩
        have hOs2 := seatF_ok (g := (gF A.1 (jg : Int)).1 1) hOg (show (0 : Int) ≤ (jg : Int) by omega)
        refine z_istore cx dX5_bestGap_37 ?_
        refine z_aload_n cx dX5_bestGap_39 rfl ?_
        refine z_aload_n cx dX5_bestGap_40 rfl ?_
        refine z_iconst cx dX5_bestGap_41 ?_
        refine z_vi cx (c_X5_its 1 rfl (by omega)) rfl mv_X5_its ml_X5_47 (by omega) (co_mod E _) rfl dX5_bestGap_42 (fun z42 G42 hz42 => ?_)
        obtain ⟨eG, rfl⟩ := hz42
        have eG := eG.symm
        subst eG
        have e01 : G34 20 0 1 = A.1.1 0 := hz34.2.1.2.1 0 (by omega)
        rw [e01]
        refine z_vi cx (c_X5_unreadBy (F := (seatF (gF A.1 (jg : Int)) ((gF A.1 (jg : Int)).1 1))) hz34.2.1 hOs2 (by omega)) rfl mv_X5_unreadBy ml_X5_199 (by omega) (co_mod E _) rfl dX5_bestGap_45 (fun z45 G45 hz45 => ?_)
        obtain ⟨eG, rfl⟩ := hz45
        have eG := eG.symm
        subst eG
        rw [gF_unr]
        have hub := unr_b (seatF A.1 (jg : Int)) (A.1.1 0)
        have hsl : (seatF A.1 (jg : Int)).2.2.length = A.1.2.2.length := seatN_len _ _ _
        refine z_istore cx dX5_bestGap_48 ?_
        refine z_aload_n cx dX5_bestGap_50 rfl ?_
        refine g_X5_1 cx fl_X5_13 dX5_bestGap_51 ?_
        refine z_iconst cx dX5_bestGap_54 ?_
        refine z_aload_n cx dX5_bestGap_55 rfl ?_
        refine g_X5_0 cx fl_X5_7 dX5_bestGap_56 ?_
        refine z_iconst cx dX5_bestGap_59 ?_
        refine z_sv cx (c_X5_copies (c0 := 8) (c1 := 7) (n0 := 880) (n1 := 880) (f0 := 21) (f1 := 20) 0 0 rfl rfl (by omega) rfl (co_aside E) (co_s E)) rfl ms_X5_copies ml_X5_31 dX5_bestGap_60 (fun G60 hz60 => ?_)
        subst hz60
        refine z_iload cx dX5_bestGap_63 rfl ?_
        refine z_iload_n cx dX5_bestGap_65 rfl ?_
        refine z_icmp_ge cx (tgt := 73) dX5_bestGap_66 (fun h66 => ?_) (fun h66 => ?_)
        · skip
          refine z_iload_n cx dX5_bestGap_73 rfl ?_
          refine z_istore_n cx dX5_bestGap_74 ?_
          refine z_iload cx dX5_bestGap_75 rfl ?_
          refine z_iload_n cx dX5_bestGap_77 rfl ?_
          refine z_icmp_ge cx (tgt := 86) dX5_bestGap_78 (fun h78 => ?_) (fun h78 => ?_)
          · skip
            refine z_iload_n cx dX5_bestGap_86 rfl ?_
            refine z_istore_n cx dX5_bestGap_87 ?_
            refine z_iinc cx dX5_bestGap_88 rfl ?_
            refine z_goto cx (tgt := 20) dX5_bestGap_91 ?_
            refine Z.locs (ih (jg + 1) _ _ _ (by omega) (by omega) ?_ (by omega) (fun j hj => by rw [gcp_eq, if_pos ⟨rfl, rfl, by omega, by omega⟩, show 0 + (j - 0) = j by omega, hz34.2.2 21 0 j (by omega), gup_f _ _ _ _ _ _ _ (by decide)]; exact h21 j hj) (fun j hj => by rw [gcp_eq, if_neg (by omega), hz34.2.2 21 0 j (by omega), gup_f _ _ _ _ _ _ _ (by decide)]; exact h21 j hj) (fun f a j hj => by rw [gcp_eq, if_neg (by omega), hz34.2.2 f a j (by omega), gup_eq, if_neg (by omega)]; exact ho f a j hj)) ⟨rfl, rfl, rfl, rfl, trivial⟩
            show @ite _ (unr (seatF A.1 (jg : Int)) (A.1.1 0) < (bgS A.1 jg).2) (Classical.propDecidable _) _ _ = _
            rw [hbg]
            first
            | (exfalso; omega)
            | (rw [if_pos (show _ < _ from by dsimp only; omega)]; done)
            | (rw [if_neg (show ¬ _ < _ from by dsimp only; omega)]; done)
          · skip
            refine z_iload cx dX5_bestGap_81 rfl ?_
            refine z_goto cx (tgt := 87) dX5_bestGap_83 ?_
            refine z_istore_n cx dX5_bestGap_87 ?_
            refine z_iinc cx dX5_bestGap_88 rfl ?_
            refine z_goto cx (tgt := 20) dX5_bestGap_91 ?_
            refine Z.locs (ih (jg + 1) _ _ _ (by omega) (by omega) ?_ (by omega) (fun j hj => by rw [gcp_eq, if_pos ⟨rfl, rfl, by omega, by omega⟩, show 0 + (j - 0) = j by omega, hz34.2.2 21 0 j (by omega), gup_f _ _ _ _ _ _ _ (by decide)]; exact h21 j hj) (fun j hj => by rw [gcp_eq, if_neg (by omega), hz34.2.2 21 0 j (by omega), gup_f _ _ _ _ _ _ _ (by decide)]; exact h21 j hj) (fun f a j hj => by rw [gcp_eq, if_neg (by omega), hz34.2.2 f a j (by omega), gup_eq, if_neg (by omega)]; exact ho f a j hj)) ⟨rfl, rfl, rfl, rfl, trivial⟩
            show @ite _ (unr (seatF A.1 (jg : Int)) (A.1.1 0) < (bgS A.1 jg).2) (Classical.propDecidable _) _ _ = _
            rw [hbg]
            first
            | (exfalso; omega)
            | (rw [if_pos (show _ < _ from by dsimp only; omega)]; done)
            | (rw [if_neg (show ¬ _ < _ from by dsimp only; omega)]; done)
        · skip
          refine z_iload_n cx dX5_bestGap_69 rfl ?_
          refine z_goto cx (tgt := 74) dX5_bestGap_70 ?_
          refine z_istore_n cx dX5_bestGap_74 ?_
          refine z_iload cx dX5_bestGap_75 rfl ?_
          refine z_iload_n cx dX5_bestGap_77 rfl ?_
          refine z_icmp_ge cx (tgt := 86) dX5_bestGap_78 (fun h78 => ?_) (fun h78 => ?_)
          · skip
            refine z_iload_n cx dX5_bestGap_86 rfl ?_
            refine z_istore_n cx dX5_bestGap_87 ?_
            refine z_iinc cx dX5_bestGap_88 rfl ?_
            refine z_goto cx (tgt := 20) dX5_bestGap_91 ?_
            refine Z.locs (ih (jg + 1) _ _ _ (by omega) (by omega) ?_ (by omega) (fun j hj => by rw [gcp_eq, if_pos ⟨rfl, rfl, by omega, by omega⟩, show 0 + (j - 0) = j by omega, hz34.2.2 21 0 j (by omega), gup_f _ _ _ _ _ _ _ (by decide)]; exact h21 j hj) (fun j hj => by rw [gcp_eq, if_neg (by omega), hz34.2.2 21 0 j (by omega), gup_f _ _ _ _ _ _ _ (by decide)]; exact h21 j hj) (fun f a j hj => by rw [gcp_eq, if_neg (by omega), hz34.2.2 f a j (by omega), gup_eq, if_neg (by omega)]; exact ho f a j hj)) ⟨rfl, rfl, rfl, rfl, trivial⟩
            show @ite _ (unr (seatF A.1 (jg : Int)) (A.1.1 0) < (bgS A.1 jg).2) (Classical.propDecidable _) _ _ = _
            rw [hbg]
            first
            | (exfalso; omega)
            | (rw [if_pos (show _ < _ from by dsimp only; omega)]; done)
            | (rw [if_neg (show ¬ _ < _ from by dsimp only; omega)]; done)
          · skip
            refine z_iload cx dX5_bestGap_81 rfl ?_
            refine z_goto cx (tgt := 87) dX5_bestGap_83 ?_
            refine z_istore_n cx dX5_bestGap_87 ?_
            refine z_iinc cx dX5_bestGap_88 rfl ?_
            refine z_goto cx (tgt := 20) dX5_bestGap_91 ?_
            refine Z.locs (ih (jg + 1) _ _ _ (by omega) (by omega) ?_ (by omega) (fun j hj => by rw [gcp_eq, if_pos ⟨rfl, rfl, by omega, by omega⟩, show 0 + (j - 0) = j by omega, hz34.2.2 21 0 j (by omega), gup_f _ _ _ _ _ _ _ (by decide)]; exact h21 j hj) (fun j hj => by rw [gcp_eq, if_neg (by omega), hz34.2.2 21 0 j (by omega), gup_f _ _ _ _ _ _ _ (by decide)]; exact h21 j hj) (fun f a j hj => by rw [gcp_eq, if_neg (by omega), hz34.2.2 f a j (by omega), gup_eq, if_neg (by omega)]; exact ho f a j hj)) ⟨rfl, rfl, rfl, rfl, trivial⟩
            show @ite _ (unr (seatF A.1 (jg : Int)) (A.1.1 0) < (bgS A.1 jg).2) (Classical.propDecidable _) _ _ = _
            rw [hbg]
            first
            | (exfalso; omega)
            | (rw [if_pos (show _ < _ from by dsimp only; omega)]; done)
            | (rw [if_neg (show ¬ _ < _ from by dsimp only; omega)]; done)
  refine z_aload_n cx dX5_bestGap_0 rfl ?_
  refine g_X5_0 cx fl_X5_7 dX5_bestGap_1 ?_
  refine z_iconst cx dX5_bestGap_4 ?_
  refine z_aload_n cx dX5_bestGap_5 rfl ?_
  refine g_X5_1 cx fl_X5_13 dX5_bestGap_6 ?_
  refine z_iconst cx dX5_bestGap_9 ?_
  refine z_sv cx (c_X5_copies (c0 := 7) (c1 := 8) (n0 := 880) (n1 := 880) (f0 := 20) (f1 := 21) 0 0 rfl rfl (by omega) rfl (co_s E) (co_aside E)) rfl ms_X5_copies ml_X5_31 dX5_bestGap_10 (fun G10 hz10 => ?_)
  subst hz10
  refine z_iconst cx dX5_bestGap_13 ?_
  refine z_istore_n cx dX5_bestGap_14 ?_
  refine z_bipush cx dX5_bestGap_15 ?_
  refine z_istore_n cx dX5_bestGap_17 ?_
  refine z_iconst cx dX5_bestGap_18 ?_
  refine z_istore_n cx dX5_bestGap_19 ?_
  refine Z.locs (L20 _ (0) (0) (21) _ (Nat.lt_succ_self _) (by omega) rfl (by omega) (fun j _ => by rw [gcp_eq, if_neg (by omega)]) (fun j hj => by rw [gcp_eq, if_pos ⟨rfl, rfl, by omega, by omega⟩]; simp) (fun f a j hj => by rw [gcp_eq, if_neg (by omega)])) ⟨rfl, rfl, rfl, rfl, trivial⟩
